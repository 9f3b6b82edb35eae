/-! The steps of the invariant that make nothing new but text. -/
section Is
variable {G H G' H' : Nat → Nat → Nat} {sa : Nat → Nat} {x n kc ks kc' ks' : Nat} {s s' : cS} {t t' t0 : moS} {Os : Nat → List Pf} {E : List (Int32 × Int64)}
theorem rdI.fr {Rv Rq : List Nat} {Gp : List (Nat × Nat)} (hR : RR G H sa x s t) (f : fr Rv Gp Rq s s') (d : djp [(223, 30), (140, 22)] Gp) (h : rdI' x s) : rdI' x s' := fun rd e => by
  rw [f.p hR.q.1.1.1 (d.n (223, 30))] at e
  rw [f.p (rd_22 hR rd e) (d.n (140, 22))]
  exact h rd e
theorem rdC.fr {Rv Rq : List Nat} {Gp : List (Nat × Nat)} (hR : RR G H sa x s t) (f : fr Rv Gp Rq s s') (d : djp [(223, 30), (140, 22)] Gp) : rdC s' x = rdC s x ∧ rdS s' x = rdS s x := by
  unfold rdC rdS
  rw [f.p hR.q.1.1.1 (d.n (223, 30))]
  exact ⟨rfl, rfl⟩
theorem rd_kp (e : s'.P 223 x = s.P 223 x) : rdC s' x = rdC s x ∧ rdS s' x = rdS s x := by
  unfold rdC rdS
  rw [e]
  exact ⟨rfl, rfl⟩
/-- an array that stays -/
theorem caS_st {b w cap : Nat} {l : List Int32} (hb : BL s b w l cap) (hP : s'.P 0 b = s.P 0 b) (hK : ∀ a, (s.K a).1 ≠ 0 → s'.K a = s.K a) : capOf s' b = capOf s b := by
  obtain ⟨-, ⟨w1, w2, -⟩, d, h1, h2, -⟩ := hb
  unfold capOf
  rw [hP, h1]
  show (s'.K d).2 = (s.K d).2
  rw [hK d (by rw [h2]; show w ≠ 0; omega)]
theorem tp_st {Rv Rq : List Nat} {Gp : List (Nat × Nat)} (hR : RR G H sa x s t) (f : fr Rv Gp Rq s s') (d : (0, 1) ∉ Gp) : capOf s' (H 220 x) = capOf s (H 220 x) := by
  obtain ⟨hq, ⟨cap, hc, hb⟩, -⟩ := hR.q
  exact caS_st hb (f.p (hq.ty.p hq.1.1 220 1).2 d) (fun a h => (f a h).1)
theorem tx_st {Rv Rq : List Nat} {Gp : List (Nat × Nat)} (hR : RR G H sa x s t) (f : fr Rv Gp Rq s s') (d : djp [(0, 32), (221, 30), (222, 30)] Gp) : TC s' x = TC s x := by
  obtain ⟨hq, -, tx, pg, c1, c2, h1, h2, k1, k2, -, -, -, b1, l, b2⟩ := hR.q
  unfold TC
  rw [f.p hq.1.1 (d.n (221, 30)), f.p hq.1.1 (d.n (222, 30)), h1, h2]
  show capOf s' tx + capOf s' pg = capOf s tx + capOf s pg
  rw [caS_st b1 (f.p k1 (d.n (0, 32))) (fun a h => (f a h).1), caS_st b2 (f.p k2 (d.n (0, 32))) (fun a h => (f a h).1)]
/-- tape, text and page stay -/
theorem kb.cp (hR : RR G H sa x s t) (hR' : RR G' H' sa x s' t') (k : kb x s s') : cpA s' H' x = cpA s H x := by
  obtain ⟨⟨p0, p1, p2⟩, q1, q2, hK⟩ := k
  have e220 : H' 220 x = H 220 x := by
    have a := (hR.q.1.ty.p hR.q.1.1.1 220 1).1
    have b := (hR'.q.1.ty.p hR'.q.1.1.1 220 1).1
    rw [p0, a] at b
    exact (Option.some.inj b).symm
  obtain ⟨hq, ⟨cap, hc, hb⟩, tx, pg, c1, c2, h1, h2, k1, k2, -, -, -, b1, l, b2⟩ := hR.q
  unfold cpA TC
  rw [p1, p2, h1, h2, e220]
  show capOf s' tx + capOf s' pg + capOf s' (H 220 x) = capOf s tx + capOf s pg + capOf s (H 220 x)
  rw [caS_st b1 (q2 _ k1) hK, caS_st b2 (q2 _ k2) hK, caS_st hb (q1 _ (hq.ty.p hq.1.1 220 1).2) hK]
/-- what may still be made stays -/
theorem rc_fr {Rv Rq : List Nat} {Gp : List (Nat × Nat)} {W : List Nat} (hR : RR G H sa x s t) (hM : MV t) (f : fr Rv Gp Rq s s') (d : djp [(200, 27), (200, 28), (0, 2), (28, 4), (96, 8)] Gp) (d2 : (200, 29) ∉ Gp) (m : mfr W t t') (dm : dj [17, 37, 70, 123] W) : RcC s' G H t' ≤ RcC s G H t ∧ RcS s' G H x t' ≤ RcS s G H x t := by
  have p := pot_fr (G' := G) (H' := H) (t' := t') hR hM f d gA.rf hA.rf (by unfold cR; rw [m.S 37 (dm.n 37)]; exact Nat.le_refl _) (by unfold cL; rw [m.S 17 (dm.n 17)]; exact Nat.le_refl _) (fun r _ => by unfold cI; rw [m.I 70 (dm.n 70)]; exact Nat.le_refl _) (by unfold cF; rw [m.S 123 (dm.n 123)])
  have q := td_same (G' := G) (H' := H) hR.q.1.1 rfl hA.rf f (f.p (hR.q.1.ty.p hR.q.1.1.1 237 29).2 d2)
  unfold RcC RcS
  rw [q.2]
  exact ⟨Nat.add_le_add_right p.1 _, Nat.add_le_add_right p.2 _⟩
theorem vR.so {Rv Rq : List Nat} {Gp : List (Nat × Nat)} {W : List Nat} (h : vR sa x s t G H Os E) (R' : RR G H sa x s' t') (M' : MV t') (m : mfr W t t') (d1 : dj [22, 46, 47, 48, 49, 50, 51, 52, 70, 71, 72, 75, 76, 77, 78, 105, 106, 107, 108, 109, 110, 111, 112, 113, 114, 115, 116, 117, 118, 119, 120, 121, 122] W) (d2 : dj [37, 39, 44, 105] W) (d3 : dj [70, 71, 75, 76, 101, 102, 103, 104, 126, 131, 132] W) (f : fr Rv Gp Rq s s') (d4 : djp [(223, 30), (140, 22)] Gp) : vR sa x s' t' G H Os E := by
  obtain ⟨hR, hM, hA, hE, hN, hS, hI⟩ := h
  refine ⟨R', M', hA.m m ⟨d1.n 120, d1.n 121⟩, hE.of hM M' (by unfold cR; rw [m.S 37 (d2.n 37)]) (fun _ _ => sEq.m m d1) (fun _ _ z => by rw [m.I 39 (d2.n 39)] at z; exact z), hN.m m d2, hS.fr m d3, rdI.fr hR f d4 hI⟩
theorem vN.so {W : List Nat} (h : vN (n + 1) t Os E) (m : mfr W t t') (d : dj [123, 124, 138] W) (d' : dj [1, 23] W) (hb : btL t' ≤ btL t + 20) : vN n t' Os E := by
  obtain ⟨h1, h2, h3⟩ := h
  refine ⟨fun r => by have := h1 r; omega, by omega, fun j hj => ?_⟩
  obtain ⟨v, e, hv⟩ := h3 j hj
  have e1 : tmN t' = tmN t := by unfold tmN; rw [m.S 1 (d'.n 1)]
  refine ⟨v, by rw [m.I 23 (d'.n 23)]; exact e, ?_⟩
  rw [rq_m m d, e1]
  omega
theorem ar_j1 {kc kc' R R' d d' c c' b b' : Nat} (hR : R' ≤ R) (hd : d' = d) (hb : b' ≤ b + 20) (h : 16 * kc + c ≤ 16 * kc' + c') : 16 * (kc + R' + d') + c + 256 * b' ≤ 16 * (kc' + R + d) + c' + 256 * b + 5120 := by omega
theorem ar_j2 {kc kc' R R' d d' c c' b b' : Nat} (hR : R' ≤ R) (hd : d' = d) (hb : b' ≤ b + 20) (h : kc + 2 * c ≤ kc' + 2 * c') : kc + R' + d' + 2 * c + 300 * b' ≤ kc' + R + d + 2 * c' + 300 * b + 6000 := by omega
/-- a step that makes nothing but text -/
theorem iv_so {Rv Rq : List Nat} {Gp : List (Nat × Nat)} {W : List Nat} (h : vR sa x s t G H Os E) (hn : vN (n + 1) t Os E) (hC : vC (n + 1) x s t t G H kc ks) (R' : RR G H sa x s' t') (M' : MV t') (m : mfr W t t') (hb : btL t' ≤ btL t + 20) (f : fr Rv Gp Rq s s') (k1 : 16 * kc + cpA s H x ≤ 16 * kc' + cpA s' H x) (k2 : ks + 2 * cpA s H x ≤ ks' + 2 * cpA s' H x) (d1 : dj [22, 46, 47, 48, 49, 50, 51, 52, 70, 71, 72, 75, 76, 77, 78, 105, 106, 107, 108, 109, 110, 111, 112, 113, 114, 115, 116, 117, 118, 119, 120, 121, 122] W) (d2 : dj [37, 39, 44, 105] W) (d3 : dj [70, 71, 75, 76, 101, 102, 103, 104, 126, 131, 132] W) (d4 : djp [(223, 30), (140, 22)] Gp) (d5 : dj [123, 124, 138] W) (d6 : dj [1, 23] W) (d7 : djp [(200, 27), (200, 28), (0, 2), (28, 4), (96, 8)] Gp) (d8 : (200, 29) ∉ Gp) (d9 : dj [17, 37, 70, 123] W) : IVh sa x n s' t t' kc' ks' := by
  obtain ⟨r1, r2⟩ := rc_fr h.1 h.2.1 f d7 d8 m d9
  obtain ⟨q1, q2⟩ := rdC.fr h.1 f d4
  exact ⟨G, H, Os, E, h.so R' M' m d1 d2 d3 f d4, hn.so m d5 d6 hb, hC.st (ar_j1 r1 q1 hb k1) (ar_j2 r2 q2 hb k2)⟩
theorem bt_m {W : List Nat} (m : mfr W t t') (d : 3 ∉ W) : btL t' ≤ btL t + 20 := by
  unfold btL
  rw [m.S 3 d]
  omega
theorem bt_0 (e : t'.S 3 = 0) : btL t' ≤ btL t + 20 := by
  unfold btL
  rw [e]
  exact Nat.le_trans (show (0 : Int32).toNatClampNeg ≤ 0 from Nat.le_refl _) (Nat.zero_le _)
theorem so_op {W : List Nat} {o : Option (Int32 × moS)} {C : (Int32 → cS → Nat → Nat → Prop) → Prop} {X : cS → Nat → Nat → Prop} {Q : Int32 → cS → Nat → Nat → Prop} (h : SO G H sa x t W o C X) (k : ∀ r t' s' kc' ks', o = some (r, t') → MV t' → mfr W t t' → RR G H sa x s' t' → X s' kc' ks' → Q r s' kc' ks') : C Q := by
  obtain ⟨r, t', e, hM, m, c⟩ := h
  exact c Q fun s' kc' ks' R X => k r t' s' kc' ks' e hM m R X
end Is
