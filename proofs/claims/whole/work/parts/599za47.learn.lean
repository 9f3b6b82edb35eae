/-! A route is learned: both sides. -/
section Ly
variable {G H : Nat → Nat → Nat} {sa : Nat → Nat} {x r i : Nat} {s : cS} {t : moS}
/-- a count more -/
def tlM (t : moS) (r i : Nat) : moS := moSI t 45 (11 * r + i) (t.I 45 (11 * r + i) + 1)
theorem m_tly (hM : MV t) (hr : r < cR t) (hi : i < 11) : M_tally t (nI r) (nI i) 1 = some (tlM t r i) := by
  have h6 := hM.nR
  unfold M_tally
  rw [show (11 : Int32) * nI r + nI i = nI (11 * r + i) by rw [show (11 : Int32) = nI 11 from rfl, pk_mul, nI_add], rdI_n (n := 66) (hM.n.n 45 66) (by omega) (by decide)]
  simp only [Option.bind_some]
  rw [wrI_n (n := 66) (hM.n.n 45 66) (by omega) (by decide)]
  rfl
def tlC (s : cS) (G H : Nat → Nat → Nat) (t : moS) (r i : Nat) : cS := cSE s (H 196 (G 1 r)) i (t.I 45 (11 * r + i) + 1)
theorem w_tly (hq : RQ G H sa x s t) (hr : r < cR t) (hi : i < 11) {K : cS → Prop} (k : K (tlC s G H t r i)) : ob (gP s 9 16 (G 1 r)) (fun v1 => ob v1 (fun b2 => ob (rE s .int b2 (nI i)) (fun v3 => ob (wEi s b2 (nI i) (v3 + 1)) (fun s4 => K s4)))) := by
  have k1 := (hq.rt hr).1.1
  have p := hq.ty.r k1 196 104 11
  exact ⟨_, gd_to (okr k1 9), _, p.1, _, rd_E (i := i) (M := 11) p.2 (by decide) hi (by decide) ((hq.rt hr).2.2.2.2 i hi), _, wr_E (i := i) (M := 11) p.2 (by decide) hi (by decide), k⟩
theorem tl_rw (hi : i < 11) : rwT r t (tlM t r i) := by
  refine ⟨mfr.si (by decide), fun j _ => rfl, fun j hj => ?_, fun j _ => rfl, fun k hk j _ => ?_, fun k _ j _ => rfl⟩
  · show (moSI t 45 (11 * r + i) (t.I 45 (11 * r + i) + 1)).I 45 j = t.I 45 j
    rw [evMI, if_neg (fun z => by omega)]
  · show (moSI t 45 (11 * r + i) (t.I 45 (11 * r + i) + 1)).I k j = t.I k j
    rw [moSI_n (by revert hk; revert k; decide)]
theorem tl_fr (hq : RQ G H sa x s t) (hr : r < cR t) : fr [104] [] [] s (tlC s G H t r i) := fr.se (by rw [(hq.ty.r (hq.rt hr).1.1 196 104 11).2]; decide)
theorem tl_m : mfr [45] t (tlM t r i) := mfr.si (by decide)
theorem tl_ex {Os : Nat → List Pf} (hE : EX Os t) (hM : MV t) (hM' : MV (tlM t r i)) : EX Os (tlM t r i) := hE.of hM hM' rfl (fun _ _ => sEq.m (tl_m (t := t) (r := r) (i := i)) rfl) (fun _ _ z => z)
theorem tl_ag (hA : AGs t) : AGs (tlM t r i) := hA.m (tl_m (t := t) (r := r) (i := i)) (by decide)
end Ly
/-- how it goes on behind a route that was learned -/
def LrK (G H : Nat → Nat → Nat) (sa : Nat → Nat) (x : Nat) (Os : Nat → List Pf) (s : cS) (t : moS) (r : Nat) (o : Option moS) (kc ks : Nat) (Q : cS → Nat → Nat → Prop) : Prop := ∀ G' H' s' t' kc' ks', o = some t' → RR G' H' sa x s' t' → MV t' → AGs t' → EX Os t' → rwT r t t' → (∀ b, b ≠ 4 → b ≠ 13 → G' b = G b) → (∀ r', r' ≠ r → G' 13 r' = G 13 r') → hA H H' s → fr Rtc Ptb Qtb s s' → (∀ b g, b ≠ H 186 (G 1 r) → (s.K b).1 ≠ 0 → g ≠ 166 → s'.P g b = s.P g b) → kc + potC G' r ≤ kc' + potC G r → ks + potS s' G' H' r ≤ ks' + potS s G H r → Q s' kc' ks'
/-- the class's part -/
def lnC (sa : Nat → Nat) (p0 b7 b4 : Nat) (p2 : Int32) (b9 : Nat) (r14 : Int32) (b16 : Nat) (s : cS) (kc ks : Nat) (Q : cS → Nat → Nat → Prop) : Prop := okO s 10 b16 ∧ C_Ta_find sa b16 (some b7) s kc ks (fun r17 sr17 cr17 dr17 => (if r17 = none then (if r14 < (16 : Int32) then (ob (gP sr17 9 6 p0) (fun v18 => (ob (gI sr17 5 0 b7) (fun v19 => (ob v18 (fun b20 => (okO sr17 10 b20 ∧ C_Ta_totalOf sa b20 v19 sr17 cr17 dr17 (fun r21 sr21 cr21 dr21 => (if r21 < (60 : Int32) then (ob (gP sr21 9 6 p0) (fun v22 => (ob v22 (fun b23 => (okO sr21 10 b23 ∧ C_Ta_add sa b23 (some b7) (0 : Int32) (16 : Int32) sr21 cr21 dr21 (fun r24 sr24 cr24 dr24 => (okO sr24 9 p0 ∧ C_Rr_take sa p0 r24 (some b4) p2 (some b9) r14 sr24 cr24 dr24 (fun sr25 cr25 dr25 => (Q sr25 cr25 dr25))))))))) else (ob (gP sr21 9 16 p0) (fun v26 => (ob v26 (fun b27 => (ob (rE sr21 .int b27 (4 : Int32)) (fun v28 => (ob (wEi sr21 b27 (4 : Int32) (v28 + (1 : Int32))) (fun s29 => (Q s29 cr21 dr21)))))))))))))))))) else (Q sr17 cr17 dr17)) else (okO sr17 9 p0 ∧ C_Rr_hearAgain sa p0 r17 (some b4) p2 (some b9) r14 sr17 cr17 dr17 (fun sr30 cr30 dr30 => (Q sr30 cr30 dr30)))))
section Lz
variable {G H : Nat → Nat → Nat} {sa : Nat → Nat} {x kc ks r p A f i : Nat} {s : cS} {t : moS} {metric po ho gn n : Int32} {gh gl h l ph pl : Int64} {L : List Int32} {Os : Nat → List Pf} {Q : cS → Nat → Nat → Prop}
theorem c_learn (hR : RR G H sa x s t) (hM : MV t) (hAg : AGs t) (hE : EX Os t) (hO : ∀ r, (Os r).length ≤ 760) (hr : r < cR t) (hp : p < cI t r) (hm : rng metric 1 16) (hH : HE H s A L f h l po ho) (hB : ∀ j, L.getD j 0 = nI (vc L j)) (hi : i < 1000) (hop : PF s (H 239 x) (fam (nI f)) gh gl gn) (e164 : t.Z 164 = gh) (e165 : t.Z 165 = gl) (hf' : lnOk (nI f) n) (hpe : PF s (H 238 x) (fam (nI f)) ph pl n) (z13 : t.Z 13 = ph) (z14 : t.Z 14 = pl) (s15 : t.S 15 = n) (hkc : potC G r ≤ kc) (hks : potS s G H r ≤ ks) (kk : LrK G H sa x Os s t r (M_learn t (nI r) (nI (4 * r + p)) (nI f) metric (tgF (fun j => L.getD j 0) f i) h l) kc ks Q) : lnC sa (G 1 r) (H 238 x) A (nI i) (G 2 (4 * r + p)) metric (H 186 (G 1 r)) s kc ks Q := by
  have hq := hR.q.1
  have hT := hq.ty
  have hf := hH.2.2.2.2
  have k26 := (hq.rt hr).1.1
  have o9 := okr k26 9
  have p186 := hT.p k26 186 27
  have o10 := okr p186.2 10
  have k18 := (hT.p hq.1.1 238 18).2
  have h5 := okr k18 5
  have ey : cPk s (H 238 x) = kyV (nI f) ph pl n := hpe.key
  have ek : ∀ j, j < cN t r → cPk s (H 160 (G 4 (2700 * r + j))) = kyR t (2700 * r + j) := fun j hj => ((hq.tb hr).2.1 j hj).1.key
  obtain ⟨w, cap, ht, -⟩ := tbo_t hq hM hr
  obtain ⟨m1, m2, m3, m4⟩ := hm
  have eM : ∀ y, M_find t (nI r) (nI f) ph pl n = some y → M_learn t (nI r) (nI (4 * r + p)) (nI f) metric (tgF (fun j => L.getD j 0) f i) h l = if y = -1 then (if metric = 16 then some t else M_learn_b44 t (nI r) (nI (4 * r + p)) (nI f) metric (tgF (fun j => L.getD j 0) f i) h l 0 ((2700 : Int32) * nI r)) else lnT t (nI r) (nI (4 * r + p)) metric (tgF (fun j => L.getD j 0) f i) h l y := fun y hy => by
    unfold M_learn
    rw [z13, z14, s15, hy]
    rfl
  unfold lnC
  refine ⟨o10, w_find ht (hpe.ok hf' h5) (fun z => ifT rfl ?_) fun j hj z => ifF (by simp) ?_⟩
  · have hnf : ∀ j, j < cN t r → kyR t (2700 * r + j) ≠ kyV (nI f) ph pl n := fun j hj e => z j hj (by rw [ek j hj, ey]; exact e)
    have eF : M_find t (nI r) (nI f) ph pl n = some (-1) := by
      rcases m_find (h := ph) (l := pl) hM hr hf' with ⟨-, y⟩ | ⟨j, hj, y, -⟩
      · exact y
      · exact absurd y (hnf j hj)
    have eM := eM _ eF
    rw [if_pos rfl] at eM
    by_cases c16 : metric = 16
    · rw [if_pos c16] at eM
      exact ifF (by rw [c16]; decide) (kk G H s t kc ks eM hR hM hAg hE rwT.rf (fun _ _ _ => rfl) (fun _ _ => rfl) hA.rf fr.rf (fun _ _ _ _ _ => rfl) (Nat.le_refl _) (Nat.le_refl _))
    rw [if_neg c16, m_cnt hM hr] at eM
    have n16 : m1 < 16 := by
      have : m1 ≠ 16 := fun z => c16 (by rw [m2, z]; rfl)
      omega
    refine ifT (by rw [m2]; exact nI_lt (b := 16) n16 (by decide)) ⟨_, gd_to o9, _, gd_to h5, _, p186.1, o10, ?_⟩
    rw [show s.I (20 * 5 + 0) (H 238 x) = fam (nI f) from hpe.1]
    refine w_totF hq hM hr hf ?_
    have le : cFm t r f ≤ 2700 := by
      have h1 := fmC_le (t := t) (r := r) (f := f) (n := cN t r)
      have h2 : fmC t r f (cN t r) = cFm t r f := rfl
      have h3 := hM.nRo hr
      omega
    by_cases c60 : cFm t r f < 60
    · rw [if_pos c60] at eM
      refine ifT (nI_lt (b := 60) c60 (by decide)) ⟨_, gd_to o9, _, p186.1, o10, ?_⟩
      have hpf : ∀ j, j < cN t r → pfR t (2700 * r + j) ≠ (nI f, ph, pl, n) := fun j hj e => hnf j hj (by
        have a1 := congrArg (fun z : Pf => z.1) e
        have a2 := congrArg (fun z : Pf => z.2.1) e
        have a3 := congrArg (fun z : Pf => z.2.2.1) e
        have a4 := congrArg (fun z : Pf => z.2.2.2) e
        dsimp only [pfR] at a1 a2 a3 a4
        unfold kyR
        rw [a1, a2, a3, a4])
      have h8 : cN t r < 880 := ow_lt (P := (nI f, ph, pl, n)) (hE r hr).1 (hO r) hM hr hf hpf c60
      refine c_newR hR hM hAg hr hp ⟨m1, m2, m3, by omega⟩ hH hB hi hop e164 e165 hf' hpe z13 z14 s15 hnf h8 hkc hks ?_
      intro j G' H' s' t' kc' ks' b1 b2 b3 b4 b5 b6 b7 b8 b9 b10 b11 b12
      have m := b5.1.1
      have hr' : r < cR t' := by unfold cR; rw [m.S 37 (by decide)]; exact hr
      refine kk G' H' s' t' kc' ks' (eM.trans b1) b2 b3 b4 (fun r' hr'' => ?_) b5.1 b6 b7 b8 b9 b10 b11 b12
      have hr0 : r' < cR t := by unfold cR at hr'' ⊢; rw [m.S 37 (by decide)] at hr''; exact hr''
      by_cases ce : r' = r
      · rw [ce]
        exact exr_nw (P := (nI f, ph, pl, n)) (hE r hr) hM b3 hr hr' rfl hf b5 hf' hpf c60
      · exact (hE r' hr0).rw hM b3 hr0 b5.1 ce
    · rw [if_neg c60, m_tly hM hr (by decide)] at eM
      refine ifF (nI_nlt (b := 60) (by omega) (by omega)) (w_tly hq hr (i := 4) (by decide) ?_)
      obtain ⟨R1, M1⟩ := rr_cnt (i := 4) (v := t.I 45 (11 * r + 4) + 1) hR hM hr (by decide)
      have f1 := tl_fr (i := 4) hq hr
      exact kk G H _ _ kc ks eM R1 M1 (tl_ag hAg) (tl_ex hE hM M1) (tl_rw (by decide)) (fun _ _ _ => rfl) (fun _ _ => rfl) hA.rf f1.wk (fun _ _ _ _ _ => rfl) (Nat.le_refl _) (Nat.le_refl _)
  · have hk : kyR t (2700 * r + j) = kyV (nI f) ph pl n := by rw [← ek j hj, z, ey]
    have h106 : t.I 106 (2700 * r + j) = nI f := ((kyV_i (hM.kl hr hj) hf').mp hk).1
    have eF : M_find t (nI r) (nI f) ph pl n = some (nI (2700 * r + j)) := by
      rcases m_find (h := ph) (l := pl) hM hr hf' with ⟨y, -⟩ | ⟨j', hj', y1, y2⟩
      · exact absurd hk (y j hj)
      · have : j' = j := by
          rcases Nat.lt_trichotomy j' j with c | c | c
          · have := hM.ks hr c hj
            omega
          · exact c
          · have := hM.ks hr c hj'
            omega
        rw [← this]
        exact y2
    have eM := eM _ eF
    have h9 := hM.nRo hr
    have h6 := hM.nR
    rw [if_neg (nI_ne (show 2700 * r + j < 16200 by omega))] at eM
    refine ⟨o9, c_again (k := 2700 * r + j) hR hM hAg hr hj rfl rfl hp ⟨m1, m2, m3, m4⟩ hH hB hi h106 hop e164 e165 ?_⟩
    intro s' t' b1 b2 b3 b4 b5 b6 b7 b8
    have hK : (s'.P 200 (H 186 (G 1 r))) = s.P 200 (H 186 (G 1 r)) := b7 200 _ (by decide)
    have ct : rwT r t t' := by
      rcases b5 with e | e
      · rw [e]; exact rwT.rf
      · exact e.1
    refine kk G H s' t' kc ks (eM.trans b1) b2 b3 b4 (fun r' hr'' => ?_) ct (fun _ _ _ => rfl) (fun _ _ => rfl) hA.rf b8.wk (fun b g _ _ hg => b7 g b hg) (Nat.le_refl _) ?_
    · have m := ct.1
      have hr0 : r' < cR t := by unfold cR at hr'' ⊢; rw [m.S 37 (by decide)] at hr''; exact hr''
      by_cases ce : r' = r
      · rcases b5 with e | e
        · rw [e]; exact hE r' hr0
        · rw [ce]
          have hr' : r < cR t' := by rw [← ce]; exact hr''
          by_cases c2 : t.I 110 (2700 * r + j) = 2
          · exact (hE r hr).ag (e.ag rfl hj c2 hM b3 hr hr') hM b3 hr hr'
          · have e2 : lnT t (nI r) (nI (4 * r + p)) metric (tgF (fun j => L.getD j 0) f i) h l (nI (2700 * r + j)) = some t := by
              unfold lnT
              rw [rdI_n (n := 16200) (hM.n.n 110 16200) (by omega) (by decide)]
              simp only [Option.bind_some]
              rw [if_neg c2]
            rw [e2] at b1
            rw [← Option.some.inj b1]
            exact hE r hr
      · exact (hE r' hr0).rw hM b3 hr0 ct ce
    · unfold potS cpT
      rw [hK, b6]
      exact Nat.le_refl _
end Lz
