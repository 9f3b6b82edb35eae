/-! Requests of an interface, both sides. -/
abbrev Rgk : List Nat := Rtb ++ Ras
abbrev Pgk : List (Nat × Nat) := Ptb ++ Pas
abbrev Qgk : List Nat := Qtb ++ Qfl
/-- how it goes on behind a settling or a sending -/
def GK (sa : Nat → Nat) (x : Nat) (G H : Nat → Nat → Nat) (s : cS) (t : moS) (kc ks : Nat) (t' : moS) (Q : cS → Nat → Nat → Prop) : Prop := ∀ G' H' s' kc' ks', RR G' H' sa x s' t' → (G' 0 = G 0 ∧ G' 1 = G 1 ∧ G' 2 = G 2) → hA H H' s → fr Rgk Pgk Qgk s s' → kc + PoC s' G' H' t' ≤ kc' + PoC s G H t → ks + PoS s' G' H' t' ≤ ks' + PoS s G H t → Q s' kc' ks'
theorem ar_5 {p a b c z : Nat} (h : p + 2 * a + 622 * b + 792 * c ≤ z) : 2 * a + 622 * b + 792 * c ≤ z := by omega
section Rq
variable {G H : Nat → Nat → Nat} {sa : Nat → Nat} {x r p f kc ks : Nat} {s : cS} {t : moS} {Os : Nat → List Pf}
theorem EX.sd {t' : moS} (hE : EX Os t) (hM : MV t) (hM' : MV t') (mm : mfr ([146] ++ Wsd) t t') : EX Os t' := hE.of hM hM' (by unfold cR; rw [mm.S 37 (by decide)]) (fun r' _ => sEq.m mm rfl) (fun r' _ z => by rw [mm.I 39 (by decide)] at z; exact z)
theorem rq_one (hR : RR G H sa x s t) (hM : MV t) (hE : EX Os t) (hr : r < cR t) (hp : p < cI t r) (hf : f = 0 ∨ f = 1) (hs : ∀ i, i < cL t → ¬ t.I 23 i + 1 < 0) (hkc : PoC s G H t ≤ kc) (hks : PoS s G H t ≤ ks) : ∃ t', (if t.I 75 (2 * (4 * r + p) + f) = 0 then some t else M_request t (nI (4 * r + p)) (nI f)) = some t' ∧ MV t' ∧ EX Os t' ∧ mfr ([146] ++ Wsd) t t' ∧ (∀ i, t'.I 23 i = t.I 23 i ∨ t'.I 23 i = t.I 23 i + 1) ∧ ∀ Q, GK sa x G H s t kc ks t' Q → C_Rr_ask sa (G 1 r) (some (G 2 (4 * r + p))) (fam (nI f)) s kc ks Q := by
  by_cases h75 : t.I 75 (2 * (4 * r + p) + f) = 0
  · rw [if_pos h75]
    exact ⟨t, rfl, hM, hE, mfr.rf, fun _ => Or.inl rfl, fun Q k => c_ask0 hR hM hr hp hf h75 (k G H s kc ks hR ⟨rfl, rfl, rfl⟩ hA.rf fr.rf (Nat.le_refl _) (Nat.le_refl _))⟩
  rw [if_neg h75]
  have h6 := hM.nR
  have h4 := hM.nIf hr
  have h10 : cL t ≤ 10 := hM.1.2.2.2.2.2.1.n.2.2
  obtain ⟨-, ⟨y1, y2, y3, y4, y5, y6, y7, y8⟩, ⟨z1, z2, z3, z4, z5, z6⟩, -⟩ := px_of hR hM hr hp
  generalize hl : (t.I 71 (4 * r + p)).toNatClampNeg = l at y3 y4 y5 y6 y7
  generalize hV : mcV t (4 * r + p) = V at z4 z5 z6
  obtain ⟨te, g1, g2, g3⟩ := m_request (t := t) hM.n (p1 := nI (4 * r + p)) (p2 := nI f)
  have hMe : MV te := hM.fr g2 rfl (hM.1.fr g2 rfl)
  have hCe : MC te (4 * r + p) V := by
    unfold MC at z6 ⊢
    rw [g2.I 79 (by decide), g2.I 80 (by decide), g2.I 81 (by decide), g2.I 82 (by decide), g2.I 83 (by decide), g2.I 84 (by decide), g2.I 85 (by decide), g2.I 86 (by decide), g2.I 87 (by decide), g2.I 88 (by decide)]
    exact z6
  have hre : r < cR te := by unfold cR; rw [g2.S 37 (by decide)]; exact hr
  have hpe : p < cI te r := by unfold cI; rw [g2.I 70 (by decide)]; exact hp
  have hle : l < cL te := by unfold cL; rw [g2.S 17 (by decide)]; exact y4
  have h71e : te.I 71 (4 * r + p) = nI l := by rw [g2.I 71 (by decide)]; exact y5
  have h23e : te.I 23 = t.I 23 := g2.I 23 (by decide)
  have hsl := hs l y4
  obtain ⟨t', q1, q2, q3, q4⟩ := m_sendM (E := askE) (cmd := 1) (m := 1) (ta := 1) (th := 0) (tl := 0) hMe hre hpe hf hle h71e z4 hCe rfl (by decide) g3 (Or.inr rfl) (by rw [h23e]; exact hsl)
  rw [h23e] at q4
  have mm : mfr ([146] ++ Wsd) t t' := (g2.wk (by decide)).tr (q3.wk (by decide))
  refine ⟨t', by rw [g1, q1], q2, hE.sd hM q2 mm, mm, i23 q4, fun Q k => ?_⟩
  have Re : RR G H sa x s te := rr_fr hR hM hR.q.1.1 (fr.rf (Rv := []) (Gp := []) (Rq := [])) g2 rfl rfl rfl rfl rfl rfl rfl
  have ec := pot_t (G := G) (H := H) (s := s) g2 rfl
  obtain ⟨w1, w2⟩ := pot_p (G := G) (H := H) (s := s) hMe hre hpe hle
  refine c_ask Re hMe hre hpe hf (l := l) (by rw [h71e, nI_clamp (by omega)]) rfl (by rw [g2.I 75 (by decide)]; exact h75) g3 (by rw [h23e]; exact hsl) (by omega) (Nat.le_trans (Nat.le_trans (ar_5 w2) (Nat.le_of_eq ec.2)) hks) q1 ?_
  intro G3 H3 s3 kc3 ks3 R3 d1 d2 d3 d4 d5 d6 d7 _
  obtain ⟨u1, u2⟩ := pot_ask (kc := kc) (kc' := kc3) (ks := ks) (ks' := ks3) Re hMe hre hpe hle rfl q3 d1 d2 d3 d4 d5 d6 d7
  rw [ec.1] at u1
  rw [ec.2] at u2
  exact k G3 H3 s3 kc3 ks3 R3 ⟨d1 0 (by decide) (by decide), d1 1 (by decide) (by decide), d1 2 (by decide) (by decide)⟩ d2 (d3.wk (by decide) (by decide) (by decide)) u1 u2
/-- the model's requests, one after another -/
theorem m_reqs {q : Nat} {t1 t2 : moS} (hM : MV t) (hM1 : MV t1) (hq : q < 24) (e1 : (if t.I 75 (2 * q + 0) = 0 then some t else M_request t (nI q) (nI 0)) = some t1) (e2 : (if t1.I 75 (2 * q + 1) = 0 then some t1 else M_request t1 (nI q) (nI 1)) = some t2) : M_requests t (nI q) = some t2 := by
  have ex : ∀ f : Nat, (2 : Int32) * nI q + nI f = nI (2 * q + f) := fun f => by rw [show (2 : Int32) = nI 2 from rfl, pk_mul, nI_add]
  have st : ∀ (u v : moS) (f : Nat), f < 2 → MV u → (if u.I 75 (2 * q + f) = 0 then some u else M_request u (nI q) (nI f)) = some v → M_requests_s2 u (nI q) (nI f) = some (.inl (nI (f + 1), v)) := fun u v f hf hu e => by
    unfold M_requests_s2
    rw [if_pos (show nI f < (2 : Int32) from nI_lt (b := 2) hf (by decide)), ex, rdI_n (n := 48) (hu.n.n 75 48) (by omega) (by decide)]
    simp only [Option.bind_some]
    by_cases c : u.I 75 (2 * q + f) = 0
    · rw [if_pos c] at e ⊢
      cases e
      unfold M_requests_b26
      rw [nI_1]
    · rw [if_neg c] at e ⊢
      rw [e]
      simp only [Option.bind_some]
      unfold M_requests_b26
      rw [nI_1]
  unfold M_requests M_requests_b2
  rw [lp_l (f := fun x : Int32 × moS => M_requests_s2 x.2 (nI q) x.1) (x := (0, t)) (y := (nI 1, t1)) (st t t1 0 (by decide) hM e1), lp_l (f := fun x : Int32 × moS => M_requests_s2 x.2 (nI q) x.1) (x := (nI 1, t1)) (y := (nI 2, t2)) (st t1 t2 1 (by decide) hM1 e2)]
  refine lp_x (o := some t2) ?_
  show M_requests_s2 t2 (nI q) (nI 2) = _
  unfold M_requests_s2
  rw [if_neg (show ¬ nI 2 < (2 : Int32) by decide)]
end Rq
