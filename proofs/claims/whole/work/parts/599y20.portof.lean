/-! What is due for a prefix: the class. -/
section Po
variable {G H : Nat → Nat → Nat} {sa : Nat → Nat} {x kc ks r p : Nat} {s : cS} {t : moS} {f n : Int32} {h l : Int64}
theorem isPx.up (hp : isPx h l n) {q : Nat} (hr : t.I 75 (2 * (4 * r + q) + f.toNatClampNeg) = 1) (hl : rng (t.I 78 (2 * (4 * r + q) + f.toNatClampNeg)) 0 128) {a : Int32} : (t.I 78 (2 * (4 * r + q) + f.toNatClampNeg) = n ∧ pcov a (t.J 76 (2 * (4 * r + q) + f.toNatClampNeg)) (t.J 77 (2 * (4 * r + q) + f.toNatClampNeg)) (t.I 78 (2 * (4 * r + q) + f.toNatClampNeg)) a h l n) ∧ t.I 22 (t.I 71 (4 * r + q)).toNatClampNeg ≠ 0 ↔ upN t r q f h l n := by
  unfold upN
  generalize 2 * (4 * r + q) + f.toNatClampNeg = ix at hr hl ⊢
  obtain ⟨m, em, -, hm⟩ := hl
  constructor
  · rintro ⟨⟨z1, z2⟩, z3⟩
    rw [em, pcov_m hm] at z2
    rw [em] at z1
    obtain ⟨-, -, y1, y2⟩ := z2
    rw [z1] at y1 y2
    exact ⟨z3, by rw [hr]; decide, em.trans z1, (px_eq hp.1).mp y1, (px_eq hp.2).mp y2⟩
  · rintro ⟨z1, z2, z3, z4, z5⟩
    refine ⟨⟨z3, ?_⟩, z1⟩
    rw [em, pcov_m hm]
    rw [em] at z3
    rw [z3]
    exact ⟨rfl, Int32.le_refl _, (px_eq hp.1).mpr z4, (px_eq hp.2).mpr z5⟩
theorem w_portOf {Q : Option Nat → cS → Nat → Nat → Prop} (hq : RQ G H sa x s t) (hM : MV t) (hr : r < cR t) (hf : lnOk f n) (hpx : isPx h l n) (hp : PF s p (fam f) h l n) (h5 : okO s 5 p) (k0 : (∀ q, q < cI t r → ¬ upN t r q f h l n) → Q none s kc ks) (k1 : ∀ q, q < cI t r → upN t r q f h l n → (∀ q', q' < q → ¬ upN t r q' f h l n) → Q (some (G 2 (4 * r + q))) s kc ks) : C_Rr_portOf sa (G 1 r) (some p) s kc ks Q := by
  have h6 := hM.nR
  have h4 := hM.nIf hr
  have k26 := (hq.rt hr).1.1
  have o9 := okr k26 9
  have e70 : s.I 185 (G 1 r) = nI (cI t r) := (hq.rt hr).2.2.1.2.2.1.trans (hM.r hr).2.2.2.2.2.2.2.2.2.1.n.1
  have h184 := hq.ty.r k26 184 139 4
  unfold C_Rr_portOf C_Rr_portOf_b2
  intro P hP
  have loop : ∀ m i, i + m = cI t r → (∀ q', q' < i → ¬ upN t r q' f h l n) → P (nI i) s kc ks := by
    intro m
    induction m with
    | zero =>
      intro i hi hb
      apply hP
      unfold C_Rr_portOf_s2
      refine ⟨_, gd_to o9, ?_⟩
      rw [show s.I (20 * 9 + 5) (G 1 r) = nI (cI t r) from e70]
      exact ifF (nI_nlt (by omega) (by omega)) (k0 fun q hq' => hb q (by omega))
    | succ m ih =>
      intro i hi hb
      have hi' : i < cI t r := by omega
      have hpo := hq.po hr hi'
      have k8 := hpo.1.1
      have o4 := okr k8 4
      have hv := (hM.r hr).i hi'
      obtain ⟨lk, e71, -, l9⟩ := hv.1
      have hlk : lk < cL t := by have := hv.2.1; rw [e71, nI_clamp (by omega)] at this; exact this
      have c0 : (t.I 71 (4 * r + i)).toNatClampNeg = lk := by rw [e71, nI_clamp (by omega)]
      have okq : okQ s (H 184 (G 1 r)) (nI i) := ⟨by rw [h184.2]; decide, by rw [h184.2]; decide, by rw [h184.2]; exact vp_in_nI (by omega) (by decide)⟩
      have next : ¬ upN t r i f h l n → P (nI i + 1) s kc ks := fun hu => by
        rw [nI_1]
        refine ih (i + 1) (by omega) fun q' h' => ?_
        rcases Nat.lt_or_ge q' i with z | z
        · exact hb q' z
        · have : q' = i := by omega
          exact this ▸ hu
      have h80 := hq.ty.p k8 80 7
      have e80 : H 80 (G 2 (4 * r + i)) = G 0 lk := by rw [hpo.1.2.2, c0]
      have lkk := hq.link hlk
      have o3 := okr lkk.1.1 3
      have fn : f.toNatClampNeg < 2 := by rcases hf.1 with e | e <;> subst e <;> decide
      have rad : RAd G s t (4 * r + i) f.toNatClampNeg := by
        rcases hf.1 with e | e
        · subst e; exact hpo.2.1
        · subst e; exact hpo.2.2.1
      have lnr : t.I 75 (2 * (4 * r + i) + f.toNatClampNeg) = 1 → rng (t.I 78 (2 * (4 * r + i) + f.toNatClampNeg)) 0 128 := fun z => by
        rcases hf.1 with e | e
        · subst e; exact (hv.2.2.2.2.2.2.1 z).wk (by omega) (by omega)
        · subst e; exact hv.2.2.2.2.2.2.2.1 z
      -- behind the address
      have tail : (∀ v, v = s.P (81 + f.toNatClampNeg) (G 2 (4 * r + i)) → (if v = none then ((C_Rr_portOf_b58 sa (G 1 r) (some p) (nI i) s kc ks Q P)) else (ob (gP s 9 4 (G 1 r)) (fun v9 => (ob v9 (fun b10 => (ob (rQ s b10 (nI i)) (fun v11 => (ob v11 (fun b12 => (ob (gP s 4 0 b12) (fun v13 => (ob v13 (fun b14 => (ob (gI s 3 4 b14) (fun v15 => (if v15 = 0 then ((C_Rr_portOf_b58 sa (G 1 r) (some p) (nI i) s kc ks Q P)) else (ob v (fun b16 => (okO s 5 b16 ∧ C_Pr_sameNetwork sa b16 (some p) s kc ks (fun r17 sr17 cr17 dr17 => (if r17 = 0 then ((C_Rr_portOf_b58 sa (G 1 r) (some p) (nI i) sr17 cr17 dr17 Q P)) else ((ob (gP sr17 9 4 (G 1 r)) (fun v18 => (ob v18 (fun b19 => (ob (rQ sr17 b19 (nI i)) (fun v20 => (Q v20 sr17 cr17 dr17)))))))))))))))))))))))))))))) := by
        intro v hv'
        rcases rad with ⟨a1, a2⟩ | ⟨a1, pa, a2, a3, a4⟩
        · rw [hv', a2]
          refine ifT rfl (next fun z => z.2.1 a1)
        · rw [hv', a2]
          have o5 := okr a3 5
          refine ifF (by simp) ⟨_, gd_to o9, _, h184.1, _, gd_to okq, ?_⟩
          rw [nI_clamp (by omega)]
          refine ⟨_, hpo.1.2.1, _, gd_to o4, _, h80.1, ?_⟩
          rw [e80]
          refine ⟨_, gd_to o3, ?_⟩
          have e64 : s.I (20 * 3 + 4) (G 0 lk) = t.I 22 lk := lkk.2.2.1.2.2.2.1
          rw [e64]
          obtain ⟨b1, b2, b3, b4⟩ := a4
          obtain ⟨c1, c2, c3, c4⟩ := hp
          have key := hpx.up (t := t) (r := r) (f := f) (q := i) a1 (lnr a1) (a := fam f)
          rw [c0] at key
          have ff : fam (nI f.toNatClampNeg) = fam f := by rcases hf.1 with e | e <;> subst e <;> rfl
          by_cases z : t.I 22 lk = 0
          · refine ifT z (next fun y => y.1 (by rw [c0]; exact z))
          · refine ifF z ⟨pa, rfl, o5, w_net o5 h5 (fun y => ifT rfl (next fun u => y ?_)) fun y1 y2 => ifF (by decide) ⟨_, gd_to o9, _, h184.1, _, gd_to okq, ?_⟩⟩
            · rw [b1, b2, b3, b4, c1, c2, c3, c4, ff]
              exact (key.mpr u).1
            · rw [nI_clamp (by omega), hpo.1.2.1]
              refine k1 i hi' (key.mp ⟨⟨?_, ?_⟩, z⟩) hb
              · rw [b4, c4] at y1; exact y1
              · rw [b1, b2, b3, b4, c1, c2, c3, c4, ff] at y2; exact y2
      apply hP
      unfold C_Rr_portOf_s2
      refine ⟨_, gd_to o9, ?_⟩
      rw [show s.I (20 * 9 + 5) (G 1 r) = nI (cI t r) from e70]
      refine ifT (nI_lt hi' (by omega)) ⟨_, gd_to o9, _, h184.1, _, gd_to okq, p, rfl, _, gd_to h5, ?_⟩
      rw [nI_clamp (by omega)]
      refine ⟨_, hpo.1.2.1, o4, ?_⟩
      unfold C_Po_addressOf
      rw [show s.I (20 * 5 + 0) p = fam f from hp.1]
      rcases hf.1 with e | e
      · subst e
        exact ifT rfl ⟨_, gd_to o4, tail _ rfl⟩
      · subst e
        exact ifF (by decide) ⟨_, gd_to o4, tail _ rfl⟩
  exact loop (cI t r) 0 (by omega) (fun i hi => absurd hi (Nat.not_lt_zero _))
theorem PF.key (hp : PF s p (fam f) h l n) : cPk s p = kyV f h l n := by
  obtain ⟨a, b, c, d⟩ := hp
  unfold cPk kyV
  rw [a, b, c, d]
theorem PF.ok (hp : PF s p (fam f) h l n) (hf : lnOk f n) (h5 : okO s 5 p) : pOk s p := by
  obtain ⟨a, b, c, d⟩ := hp
  obtain ⟨m, e, hm⟩ := hf.n
  refine ⟨h5, (fam f).toNatClampNeg, m, ?_, ?_, by rw [d, e], by omega⟩
  · rw [a]
    rcases hf.1 with e | e <;> subst e <;> decide
  · rcases hf.1 with e | e <;> subst e <;> decide
/-- a router's table, as rows with keys -/
theorem tbo_t (hq : RQ G H sa x s t) (hM : MV t) (hr : r < cR t) : ∃ w cap, TbO s (H 186 (G 1 r)) w (cN t r) cap (fun j => G 4 (2700 * r + j)) (fun j => H 160 (G 4 (2700 * r + j))) ∧ s.K w = (135, cap) := by
  obtain ⟨⟨c1, c2, c3, w, cap, d1, d2, d3, d4, d5, d6, d7, d8⟩, b1, -⟩ := hq.tb hr
  have k26 := (hq.rt hr).1.1
  have ky : ∀ j, j < cN t r → cPk s (H 160 (G 4 (2700 * r + j))) = kyR t (2700 * r + j) := fun j hj => (b1 j hj).1.key
  refine ⟨w, cap, ⟨okr (hq.ty.p k26 186 27).2 10, d1, c1, ⟨by rw [d2]; show 130 ≤ 135; decide, by rw [d2]; show 135 < 146; decide, by rw [d2]⟩, by omega, by omega, fun j hj => ?_, fun i j hi hj => ?_⟩, d2⟩
  · obtain ⟨y1, y2⟩ := d6 j (by omega)
    have hp := hq.ty.p y2 160 9
    exact ⟨y1, okr y2 8, hp.1, (b1 j hj).1.ok (hM.kl hr hj) (okr hp.2 5)⟩
  · rw [ky i (by omega), ky j hj]
    exact hM.ks hr hi hj
theorem tbo_s (hq : RQ G H sa x s t) (hM : MV t) (hr : r < cR t) : ∃ w cap, TbO s (H 187 (G 1 r)) w (cSt t r) cap (fun j => G 6 (32 * r + j)) (fun j => H 160 (G 6 (32 * r + j))) ∧ s.K w = (145, cap) := by
  obtain ⟨⟨c1, c2, c3, w, cap, d1, d2, d3, d4, d5, d6, d7, d8⟩, b1, b2⟩ := hq.st hr
  have k26 := (hq.rt hr).1.1
  have c2 : cSt t r ≤ G 14 r := c2
  refine ⟨w, cap, ⟨okr (hq.ty.p k26 187 28).2 10, d1, c1, ⟨by rw [d2]; show 130 ≤ 145; decide, by rw [d2]; show 145 < 146; decide, by rw [d2]⟩, by omega, by omega, fun j hj => ?_, b2⟩, d2⟩
  obtain ⟨y1, y2⟩ := d6 j (by omega)
  have hp := hq.ty.p y2 160 36
  obtain ⟨z1, z2, -⟩ := b1 j hj
  exact ⟨y1, okr y2 8, hp.1, z2.ok (hM.sl hr z1).1 (okr hp.2 5)⟩
/-- the class's own routes and the model's -/
theorem st_both (hq : RQ G H sa x s t) (hM : MV t) (hr : r < cR t) : (∀ j, j < cSt t r → cPk s (H 160 (G 6 (32 * r + j))) = kyS t (32 * r + G 7 (32 * r + j))) ∧ ∀ k, k < cSt t r → ∃ j, j < cSt t r ∧ G 7 (32 * r + j) = k := by
  obtain ⟨-, b1, b2⟩ := hq.st hr
  refine ⟨fun j hj => (b1 j hj).2.1.key, fun k hk => ?_⟩
  exact pig_s (f := fun j => G 7 (32 * r + j)) (fun j hj => (b1 j hj).1) (fun i j hi hj z => hq.2.1.2.2.2.2.2.2.2.2.2.2 r i hr hi j hj z) hk
end Po
