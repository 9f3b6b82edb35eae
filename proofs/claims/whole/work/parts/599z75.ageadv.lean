/-! A router's table ages: a row dies under the virtual state. -/
section Av
variable {G H : Nat → Nat → Nat} {sa : Nat → Nat} {x r j kc ks : Nat} {s : cS} {t : moS}
theorem mnI_le {a b : Int32} : ¬ a < mnI a b ∧ ¬ b < mnI a b := by
  unfold mnI
  split
  · rename_i c
    exact ⟨fun z => Int32.lt_irrefl (Int32.lt_trans z c), Int32.lt_irrefl⟩
  · rename_i c
    exact ⟨Int32.lt_irrefl, c⟩
/-- a route dies, with the next deadline out of sight -/
theorem age_die (hR : RR G H sa x (cSI s 199 (G 1 r) (-2147483648)) t) (hM : MV t) (hr : r < cR t) (hj : j < cN t r) (h2 : t.I 110 (2700 * r + j) = 2) (h16 : t.I 111 (2700 * r + j) ≠ 16) : M_die t (nI r) (nI (2700 * r + j)) = some (dieM t r (2700 * r + j)) ∧ MV (dieM t r (2700 * r + j)) ∧ dR r t (dieM t r (2700 * r + j)) ∧ RR G H sa x (cSI (dieS s (G 1 r) (H 195 (G 1 r)) (H 196 (G 1 r)) x (G 4 (2700 * r + j))) 199 (G 1 r) (-2147483648)) (dieM t r (2700 * r + j)) ∧ ∀ Q : cS → Nat → Nat → Prop, Q (dieS s (G 1 r) (H 195 (G 1 r)) (H 196 (G 1 r)) x (G 4 (2700 * r + j))) kc ks → C_Rr_die sa (G 1 r) (some (G 4 (2700 * r + j))) s kc ks Q := by
  have h6 := hM.nR
  have hn := hM.nRo hr
  have hq := hR.q.1
  have hT := hq.ty
  obtain ⟨b0, b1, b2⟩ := hq.tb hr
  obtain ⟨c1, c2, c3, w, cap, d1, d2, d3, d4, d5, d6, d7, d8⟩ := id b0
  have k1 : (s.K (G 1 r)).1 = 26 := (hq.rt hr).1.1
  have ka : (s.K (G 4 (2700 * r + j))).1 = 23 := (d6 j (by omega)).2
  have p196 : s.P 196 (G 1 r) = some (H 196 (G 1 r)) ∧ s.K (H 196 (G 1 r)) = (104, 11) := hT.r k1 196 104 11
  have p195 : s.P 195 (G 1 r) = some (H 195 (G 1 r)) ∧ s.K (H 195 (G 1 r)) = (123, 3) := hT.r k1 195 123 3
  have p180 : s.P 180 (G 1 r) = some x := by
    have : s.P 180 (G 1 r) = some (H 180 (G 1 r)) := (hT.p k1 180 30).1
    rw [this, (hq.rt hr).1.2.2]
  have hra : G 1 r ≠ G 4 (2700 * r + j) := ne_ro k1 ka
  have i164 : s.I 164 (G 4 (2700 * r + j)) = t.I 111 (2700 * r + j) := by
    have := (b1 j hj).2.1.2.1
    rw [cSI_g (by decide)] at this
    exact this
  obtain ⟨mm, em, hm1, hm16⟩ := ((hM.r hr).w hj).2.2.1
  have lt : s.I 164 (G 4 (2700 * r + j)) < 16 := by
    rw [i164, em]
    refine nI_lt (b := 16) ?_ (by decide)
    have : mm ≠ 16 := fun z => h16 (by rw [em, z]; rfl)
    omega
  have hb : 2700 * r ≤ 2700 * r + j ∧ 2700 * r + j < 2700 * r + 2700 := by omega
  have e1 := dieM_e (t := t) (r := r) (k := 2700 * r + j) (fun k hk => hM.n.n k 16200 (by revert hk; revert k; decide)) (hM.n.n 45 66) (hM.n.n 44 6) (hM.n.n 42 6) (by omega) (by omega) h16
  obtain ⟨R1, M1⟩ := rr_dead hR hM hr hj rfl rfl h2
  have n1 : cN (moSI (moSI t 111 (2700 * r + j) 16) 122 (2700 * r + j) (t.S 1 + t.I 42 r)) r = cN t r := by unfold cN; rw [moSI_n (by decide), moSI_n (by decide)]
  obtain ⟨R2, M2⟩ := rr_mk R1 M1 (r := r) (j := j) hr (by rw [n1]; exact hj) rfl rfl
  refine ⟨e1, M2, dR.die hb h2, ?_, fun Q k => w_die (okr k1 9) (okr ka 8) (okr hq.1.1 11) p196.1 p196.2 p180 p195.1 p195.2 hra (fun z => absurd lt z) fun _ => k⟩
  rw [die_cm]
  exact R2
end Av
