/-! Filters, distributes, offsets: the class. -/
section Cl
variable {G H : Nat → Nat → Nat} {sa : Nat → Nat} {x kc ks r p l w b u : Nat} {s : cS} {t : moS} {f n v0 v1 : Int32} {h lo : Int64} {Q : Int32 → cS → Nat → Nat → Prop}
theorem w_conc (hq : RQ G H sa x s t) (hM : MV t) (hr : r < cR t) (hl : l < cL t) (kb : s.K b = (u, 4)) (hu : 100 ≤ u ∧ u < 130 ∧ cAT u = .int) (e0 : s.E b 0 = v0) (e1 : s.E b 1 = v1) (hv : v1 = -1 ∨ ∃ m, v1 = nI m ∧ m < cL t) (k1 : (v0 = nI w ∧ (v1 = -1 ∨ v1 = nI l)) → Q 1 s kc ks) (k0 : ¬ (v0 = nI w ∧ (v1 = -1 ∨ v1 = nI l)) → Q 0 s kc ks) : C_Rr_concerns sa (G 1 r) (some b) (nI w) (some (G 0 l)) s kc ks Q := by
  have r0 := rd_E (i := 0) kb hu (by decide) (by decide) e0
  have r1 := rd_E (i := 1) kb hu (by decide) (by decide) e1
  have o9 : okO s 9 (G 1 r) := okr (hq.rt hr).1.1 9
  have p180 := hq.ty.p (hq.rt hr).1.1 180 30
  have ex : H 180 (G 1 r) = x := (hq.rt hr).1.2.2
  unfold C_Rr_concerns
  refine ⟨b, rfl, v0, r0, ?_⟩
  by_cases c1 : v0 = nI w
  · refine ifT c1 ⟨v1, r1, ?_⟩
    by_cases c2 : v1 = -1
    · exact ifT c2 (k1 ⟨c1, Or.inl c2⟩)
    · refine ifF c2 ⟨_, gd_to o9, v1, r1, x, by rw [← ex]; exact p180.1, hq.ox, ?_⟩
      rcases hv with z | ⟨m, hm, hml⟩
      · exact absurd z c2
      refine w_linkAt hq hM (fun z => absurd hm (z m hml)) (fun i hi e => ?_)
      have em : i = m := by
        have h10 := hM.nL
        rw [hm] at e
        exact (nI_inj e (by omega) (by omega)).symm
      subst em
      by_cases c3 : i = l
      · subst c3
        exact ifT rfl (k1 ⟨c1, Or.inr hm⟩)
      · refine ifF (fun z => c3 (hq.2.1.1 i l hi hl (Option.some.inj z))) (k0 fun z => ?_)
        rcases z.2 with y | y
        · exact c2 y
        · have h10 := hM.nL
          rw [hm] at y
          exact c3 (nI_inj y (by omega) (by omega))
  · exact ifF c1 (k0 fun z => c1 z.1)
theorem rq_ls (hq : RQ G H sa x s t) {i : Nat} (hi : i < cS' t) : RLs G H sa x s t i := hq.2.2.2.2.1 i hi
theorem rq_fi (hq : RQ G H sa x s t) (hr : r < cR t) (hw : w < 2) : RFi G H s t r w := by
  obtain ⟨-, -, -, h0, h1, -⟩ := hq.2.2.2.2.2.1 r hr
  rcases (show w = 0 ∨ w = 1 by omega) with rfl | rfl
  · exact h0
  · exact h1
theorem rq_py (hq : RQ G H sa x s t) (hr : r < cR t) : RPy G H s t r := (hq.2.2.2.2.2.1 r hr).2.2.2.2.2.1
/-- a list of the class says what the model's says -/
theorem w_lal (hq : RQ G H sa x s t) (hM : MV t) {i : Nat} (hi : i < cS' t) (hf : lnOk f n) (hp : PF s p (fam f) h lo n) (h5 : okO s 5 p) (kk : Q (laV t i f h lo n) s kc ks) : C_Pl_lets sa (G 3 i) (some p) 0 s kc ks Q := by
  obtain ⟨⟨a1, a2⟩, -, a3⟩ := rq_ls hq hi
  obtain ⟨N, eN, -, hN⟩ := (hM.2.2.1 i hi).1
  have hs := (hM.2.2.1 i hi).2.2
  have cN' : (t.I 29 i).toNatClampNeg = N := by rw [eN, nI_clamp (by omega)]
  unfold laV at kk
  rw [cN'] at a3 hs kk
  exact w_lets a3 (okr a1 6) hN (by decide) (hq.ty.r a1 121 138 16) (hq.ty.r a1 122 102 16) (hq.ty.r a1 123 105 16) (hq.ty.r a1 124 106 16) (fun k hk => ⟨(hs k hk).2.1, (hs k hk).1⟩) hf hp h5 (Or.inl rfl) kk
theorem w_faf (hq : RQ G H sa x s t) (hM : MV t) (hr : r < cR t) (hw : w < 2) (hf : lnOk f n) (hp : PF s p (fam f) h lo n) (h5 : okO s 5 p) (kk : Q (faV t r w f h lo n) s kc ks) : C_Pl_lets sa (G 5 (2 * r + w)) (some p) 1 s kc ks Q := by
  obtain ⟨⟨a1, a2⟩, a3⟩ := rq_fi hq hr hw
  have hs := (hM.r hr).2.2.2.2.2.1 w hw
  obtain ⟨N, eN, -, hN⟩ := hs.1
  have hs := hs.2
  have cN' : (t.I 53 (2 * r + w)).toNatClampNeg = N := by rw [eN, nI_clamp (by omega)]
  unfold faV at kk
  rw [cN'] at a3 hs kk
  exact w_lets a3 (okr a1 6) hN (by decide) (hq.ty.r a1 121 138 32) (hq.ty.r a1 122 102 32) (hq.ty.r a1 123 105 32) (hq.ty.r a1 124 106 32) (fun k hk => hs k hk) hf hp h5 (Or.inr rfl) kk
/-- lists[i] -/
theorem w_lis (hq : RQ G H sa x s t) (hM : MV t) {i : Nat} (hi : i < cS' t) {K : Nat → Prop} (k : K (G 3 i)) : ob (gP s 11 10 x) (fun v => ob v (fun b => ob (rQ s b (nI i)) (fun v' => ob v' K))) := by
  have h8 : cS' t ≤ 8 := hM.1.2.2.2.2.2.2.1.n.2.2
  have p230 := hq.ty.r hq.1.1 230 132 8
  refine ⟨_, gd_to hq.ox, _, p230.1, _, rd_Q p230.2 (by decide) (show i < 8 by omega) (by decide) (rq_ls hq hi).1.2, _, rfl, k⟩
theorem w_refuses (hq : RQ G H sa x s t) (hM : MV t) (hr : r < cR t) (hl : l < cL t) (hw : w < 2) (hf : lnOk f n) (hp : PF s p (fam f) h lo n) (h5 : okO s 5 p) (k1 : faV t r w f h lo n = 0 ∨ daV t r w (nI l) f h lo n = 0 → Q 1 s kc ks) (k0 : ¬ faV t r w f h lo n = 0 → ¬ daV t r w (nI l) f h lo n = 0 → Q 0 s kc ks) : C_Rr_refuses sa (G 1 r) (nI w) (some (G 0 l)) (some p) s kc ks Q := by
  have k26 := (hq.rt hr).1.1
  have o9 : okO s 9 (G 1 r) := okr k26 9
  have p180 := hq.ty.p k26 180 30
  have ex : H 180 (G 1 r) = x := (hq.rt hr).1.2.2
  rw [ex] at p180
  obtain ⟨⟨a1, a2⟩, a3⟩ := rq_fi hq hr hw
  unfold C_Rr_refuses
  refine ⟨_, gd_to o9, _, (hq.ty.r k26 188 143 2).1, _, rd_Q (hq.ty.r k26 188 143 2).2 (by decide) hw (by decide) a2, _, rfl, okr a1 6, w_faf hq hM hr hw hf hp h5 ?_⟩
  by_cases c1 : faV t r w f h lo n = 0
  · exact ifT c1 (k1 (Or.inl c1))
  refine ifF c1 ?_
  have k1 := fun z => k1 (Or.inr z)
  have k0 := k0 c1
  obtain ⟨⟨b1, -⟩, b2, b3, -⟩ := rq_py hq hr
  have hs := (hM.r hr).2.2.2.2.2.2.1
  obtain ⟨N, eN, -, hN⟩ := hs.1
  have hs := hs.2
  have cN' : (t.I 59 r).toNatClampNeg = N := by rw [eN, nI_clamp (by omega)]
  unfold daV at k0 k1
  rw [cN'] at b3 hs k0 k1
  rw [eN] at b1
  have p189 := hq.ty.r k26 189 140 8
  unfold C_Rr_refuses_b19
  intro P hP
  have loop : ∀ m j, j + m = N → (fsA (fun k => (t.I 60 (8 * r + k) = nI w ∧ (t.I 61 (8 * r + k) = -1 ∨ t.I 61 (8 * r + k) = nI l)) ∧ laV t (t.I 62 (8 * r + k)).toNatClampNeg f h lo n = 0) (fun _ => 0) 1 m j = 0 → Q 1 s kc ks) → (¬ fsA (fun k => (t.I 60 (8 * r + k) = nI w ∧ (t.I 61 (8 * r + k) = -1 ∨ t.I 61 (8 * r + k) = nI l)) ∧ laV t (t.I 62 (8 * r + k)).toNatClampNeg f h lo n = 0) (fun _ => 0) 1 m j = 0 → Q 0 s kc ks) → P (nI j) s kc ks := by
    intro m
    induction m with
    | zero =>
      intro j hj _ q0
      apply hP
      unfold C_Rr_refuses_s19
      refine ⟨_, gd_to o9, ?_⟩
      rw [show s.I (20 * 9 + 10) (G 1 r) = nI N from b1]
      exact ifF (nI_nlt (by omega) (by omega)) (q0 (by unfold fsA; decide))
    | succ m ih =>
      intro j hj q1 q0
      have hjN : j < N := by omega
      obtain ⟨c1, c2, ls, els, hls⟩ := hs j hjN
      obtain ⟨d1, d2, -, -⟩ := b2 j (by omega)
      obtain ⟨e0, e1, e2, -⟩ := b3 j hjN
      have h8 : cS' t ≤ 8 := hM.1.2.2.2.2.2.2.1.n.2.2
      have cl : (t.I 62 (8 * r + j)).toNatClampNeg = ls := by rw [els, nI_clamp (by omega)]
      unfold fsA at q1 q0
      rw [cl] at q1 q0
      have no : ¬ ((t.I 60 (8 * r + j) = nI w ∧ (t.I 61 (8 * r + j) = -1 ∨ t.I 61 (8 * r + j) = nI l)) ∧ laV t ls f h lo n = 0) → C_Rr_refuses_b70 sa (G 1 r) (nI w) (some (G 0 l)) (some p) (nI j) s kc ks Q P := fun c => by
        rw [if_neg c] at q1 q0
        unfold C_Rr_refuses_b70
        rw [nI_1]
        exact ih (j + 1) (by omega) q1 q0
      apply hP
      unfold C_Rr_refuses_s19
      refine ⟨_, gd_to o9, ?_⟩
      rw [show s.I (20 * 9 + 10) (G 1 r) = nI N from b1]
      refine ifT (nI_lt hjN (by omega)) ⟨_, gd_to o9, _, p189.1, _, rd_Q p189.2 (by decide) (show j < 8 by omega) (by decide) d1, o9, ?_⟩
      refine w_conc hq hM hr hl d2 ⟨by decide, by decide, rfl⟩ e0 e1 c2 (fun z => ifF (by decide) ?_) (fun z => ifT rfl (no fun y => z y.1))
      refine ⟨_, gd_to o9, x, p180.1, _, gd_to hq.ox, _, rfl, _, rd_E (i := 2) d2 ⟨by decide, by decide, rfl⟩ (by decide) (by decide) (e2.trans els), ?_⟩
      have p230 := hq.ty.r hq.1.1 230 132 8
      refine ⟨_, p230.1, _, rd_Q p230.2 (by decide) (show ls < 8 by omega) (by decide) (rq_ls hq hls).1.2, _, rfl, okr (rq_ls hq hls).1.1 6, w_lal hq hM hls hf hp h5 ?_⟩
      by_cases c4 : laV t ls f h lo n = 0
      · rw [if_pos ⟨z, c4⟩] at q1
        exact ifT c4 (q1 rfl)
      · exact ifF c4 (no fun y => c4 y.2)
  exact loop N 0 (by omega) k1 k0
def mn16 (m : Int32) : Int32 := mnI 16 m
theorem w_raised {me : Int32} (hq : RQ G H sa x s t) (hM : MV t) (hr : r < cR t) (hl : l < cL t) (hf : lnOk f n) (hp : PF s p (fam f) h lo n) (h5 : okO s 5 p) (kk : Q (mn16 (me + ofV t r w (nI l) f h lo n)) s kc ks) : C_Rr_raised sa (G 1 r) me (nI w) (some (G 0 l)) (some p) s kc ks Q := by
  have k26 := (hq.rt hr).1.1
  have o9 : okO s 9 (G 1 r) := okr k26 9
  have p180 := hq.ty.p k26 180 30
  have ex : H 180 (G 1 r) = x := (hq.rt hr).1.2.2
  rw [ex] at p180
  obtain ⟨⟨-, b1⟩, b2, -, b3, -⟩ := rq_py hq hr
  have hs := (hM.r hr).2.2.2.2.2.2.2.1
  obtain ⟨N, eN, -, hN⟩ := hs.1
  have hs := hs.2
  have cN' : (t.I 63 r).toNatClampNeg = N := by rw [eN, nI_clamp (by omega)]
  unfold ofV at kk
  rw [cN'] at b3 hs kk
  rw [eN] at b1
  have p191 := hq.ty.r k26 191 141 8
  unfold C_Rr_raised C_Rr_raised_b3
  intro P hP
  have loop : ∀ m j, j + m = N → Q (mn16 (me + fsA (fun k => (t.I 64 (8 * r + k) = nI w ∧ (t.I 65 (8 * r + k) = -1 ∨ t.I 65 (8 * r + k) = nI l)) ∧ ¬ laV t (t.I 66 (8 * r + k)).toNatClampNeg f h lo n = 0) (fun k => t.I 67 (8 * r + k)) 0 m j)) s kc ks → P (nI j) s kc ks := by
    intro m
    induction m with
    | zero =>
      intro j hj q0
      apply hP
      unfold C_Rr_raised_s3
      refine ⟨_, gd_to o9, ?_⟩
      rw [show s.I (20 * 9 + 12) (G 1 r) = nI N from b1]
      refine ifF (nI_nlt (by omega) (by omega)) ?_
      unfold fsA mn16 at q0
      rw [Int32.add_zero] at q0
      exact q0
    | succ m ih =>
      intro j hj q0
      have hjN : j < N := by omega
      obtain ⟨c1, c2, ⟨ls, els, hls⟩, -⟩ := hs j hjN
      obtain ⟨-, -, d1, d2⟩ := b2 j (by omega)
      obtain ⟨e0, e1, e2, e3⟩ := b3 j hjN
      have h8 : cS' t ≤ 8 := hM.1.2.2.2.2.2.2.1.n.2.2
      have cl : (t.I 66 (8 * r + j)).toNatClampNeg = ls := by rw [els, nI_clamp (by omega)]
      unfold fsA at q0
      rw [cl] at q0
      have no : ¬ ((t.I 64 (8 * r + j) = nI w ∧ (t.I 65 (8 * r + j) = -1 ∨ t.I 65 (8 * r + j) = nI l)) ∧ ¬ laV t ls f h lo n = 0) → C_Rr_raised_b65 sa (G 1 r) me (nI w) (some (G 0 l)) (some p) (nI j) s kc ks Q P := fun c => by
        rw [if_neg c] at q0
        unfold C_Rr_raised_b65
        rw [nI_1]
        exact ih (j + 1) (by omega) q0
      apply hP
      unfold C_Rr_raised_s3
      refine ⟨_, gd_to o9, ?_⟩
      rw [show s.I (20 * 9 + 12) (G 1 r) = nI N from b1]
      refine ifT (nI_lt hjN (by omega)) ⟨_, gd_to o9, _, p191.1, _, rd_Q p191.2 (by decide) (show j < 8 by omega) (by decide) d1, o9, ?_⟩
      refine w_conc hq hM hr hl d2 ⟨by decide, by decide, rfl⟩ e0 e1 c2 (fun z => ifF (by decide) ?_) (fun z => ifT rfl (no fun y => z y.1))
      refine ⟨_, gd_to o9, x, p180.1, _, gd_to hq.ox, _, rfl, _, rd_E (i := 2) d2 ⟨by decide, by decide, rfl⟩ (by decide) (by decide) (e2.trans els), ?_⟩
      have p230 := hq.ty.r hq.1.1 230 132 8
      refine ⟨_, p230.1, _, rd_Q p230.2 (by decide) (show ls < 8 by omega) (by decide) (rq_ls hq hls).1.2, _, rfl, okr (rq_ls hq hls).1.1 6, w_lal hq hM hls hf hp h5 ?_⟩
      by_cases c4 : laV t ls f h lo n = 0
      · exact ifT c4 (no fun y => y.2 c4)
      · rw [if_pos ⟨z, c4⟩] at q0
        exact ifF c4 ⟨_, rd_E (i := 3) d2 ⟨by decide, by decide, rfl⟩ (by decide) (by decide) e3, q0⟩
  exact loop N 0 (by omega) kk
end Cl
