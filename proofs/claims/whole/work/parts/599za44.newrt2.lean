abbrev Rtc : List Nat := [9, 10, 11, 18, 23, 24, 26, 27, 28, 36, 37, 38, 104]
/-! A route that was not there is learned: both sides. -/
section Nx
variable {G H : Nat → Nat → Nat} {sa : Nat → Nat} {x kc ks r p A f i : Nat} {s : cS} {t : moS} {metric po ho gn n : Int32} {gh gl h l ph pl : Int64} {L : List Int32} {Q : cS → Nat → Nat → Prop}
/-- one route more at place j, which is learned -/
def nwT1 (r j : Nat) (P : Pf) (t t' : moS) : Prop := rwT r t t' ∧ cN t' r = cN t r + 1 ∧ j ≤ cN t r ∧ (∀ g, g ∈ fRI → ∀ y, y ≠ j → y ≤ cN t r → t'.I g (2700 * r + y) = t.I g (2700 * r + (if j < y then y - 1 else y))) ∧ (∀ g, g ∈ fRJ → ∀ y, y ≠ j → y ≤ cN t r → t'.J g (2700 * r + y) = t.J g (2700 * r + (if j < y then y - 1 else y))) ∧ pfR t' (2700 * r + j) = P ∧ t'.I 110 (2700 * r + j) = 2
/-- how it goes on -/
def NwK (G H : Nat → Nat → Nat) (sa : Nat → Nat) (x : Nat) (s : cS) (t : moS) (r : Nat) (P : Pf) (o : Option moS) (kc ks : Nat) (Q : cS → Nat → Nat → Prop) : Prop := ∀ j G' H' s' t' kc' ks', o = some t' → RR G' H' sa x s' t' → MV t' → AGs t' → nwT1 r j P t t' → (∀ b, b ≠ 4 → b ≠ 13 → G' b = G b) → (∀ r', r' ≠ r → G' 13 r' = G 13 r') → hA H H' s → fr Rtc Ptb Qtb s s' → (∀ b g, b ≠ H 186 (G 1 r) → (s.K b).1 ≠ 0 → g ≠ 166 → s'.P g b = s.P g b) → kc + potC G' r ≤ kc' + potC G r → ks + potS s' G' H' r ≤ ks' + potS s G H r → Q s' kc' ks'
/-- what the model does -/
noncomputable def lnN (t : moS) (p1 p2 p3 p4 p5 : Int32) (p6 p8 : Int64) : Option moS := bn2 (M_insert t p1 p3 (moS.Z t 13) (moS.Z t 14) (moS.S t 15)) (fun x3 s2 => (Option.bind (wrI s2 110 x3 (2 : Int32)) (fun s4 => (Option.bind (wrI s4 111 x3 (99 : Int32)) (fun s5 => (Option.bind (wrI s5 113 x3 ((-1) : Int32)) (fun s6 => (Option.bind (M_takeOver s6 p1 p2 x3 p4 p5 p6 p8) (fun s7 => ((some s7)))))))))))
theorem c_newR (hR : RR G H sa x s t) (hM : MV t) (hA : AGs t) (hr : r < cR t) (hp : p < cI t r) (hm : rng metric 1 15) (hH : HE H s A L f h l po ho) (hB : ∀ j, L.getD j 0 = nI (vc L j)) (hi : i < 1000) (hop : PF s (H 239 x) (fam (nI f)) gh gl gn) (e164 : t.Z 164 = gh) (e165 : t.Z 165 = gl) (hf' : lnOk (nI f) n) (hpe : PF s (H 238 x) (fam (nI f)) ph pl n) (z13 : t.Z 13 = ph) (z14 : t.Z 14 = pl) (s15 : t.S 15 = n) (hnf : ∀ j, j < cN t r → kyR t (2700 * r + j) ≠ kyV (nI f) ph pl n) (h8 : cN t r < 880) (hkc : potC G r ≤ kc) (hks : potS s G H r ≤ ks) (kk : NwK G H sa x s t r (nI f, ph, pl, n) (lnN t (nI r) (nI (4 * r + p)) (nI f) metric (tgF (fun j => L.getD j 0) f i) h l) kc ks Q) : C_Ta_add sa (H 186 (G 1 r)) (some (H 238 x)) 0 16 s kc ks (fun r24 sr24 cr24 dr24 => okO sr24 9 (G 1 r) ∧ C_Rr_take sa (G 1 r) r24 (some A) (nI i) (some (G 2 (4 * r + p))) metric sr24 cr24 dr24 (fun sr25 cr25 dr25 => Q sr25 cr25 dr25)) := by
  have hq := hR.q.1
  have hT := hq.ty
  have h6 := hM.nR
  have h4 := hM.nIf hr
  have k26 := (hq.rt hr).1.1
  obtain ⟨w, cap, ht, hK⟩ := tbo_t hq hM hr
  have hTa := (hq.tb hr).1
  have hw27 := hTa.2.2.1
  rw [potS_c ht.2.1 hK] at hks
  have kx := hq.1.1
  have k238 := hT.p kx 238 18
  have h5 := okr k238.2 5
  obtain ⟨i', t2, hI, hins, hi', l1, l2⟩ := m_insert (h := ph) (l := pl) hM hr hf' h8
  have hpk := hpe.key
  have ky : ∀ j, j < cN t r → cPk s (H 160 (G 4 (2700 * r + j))) = kyR t (2700 * r + j) := fun j hj => ((hq.tb hr).2.1 j hj).1.key
  unfold potC at hkc
  refine w_add (u1 := 9) (u2 := 10) (u3 := 11) (mx := 2700) (hw := G 13 r) (g := fun j => G 4 (2700 * r + j)) hR hM (Or.inl ⟨rfl, rfl, rfl, rfl⟩) (by decide) (by decide) hTa (by decide) (by omega) ht (hpe.ok hf' h5) ⟨by rw [k238.2]; decide, by rw [k238.2]; decide⟩ hkc hks ?_
  intro H' a i0 w' cap' hw' s1 kc' ks' hR1 hA1 f1 hP1 hi0 i1 i2 hT1 hw1 hK1 hnc ka hnw hb1 hb2
  have ei : i0 = i' := by
    refine ins_i (K := kyV (nI f) ph pl n) (A := cN t r) (k := fun j => kyR t (2700 * r + j)) hnf (fun j hj => ?_) (fun j h1 h2 => ?_) hi0 (fun j hj => l1 j hj) (fun j h1 h2 => l2 j h1 h2) hi'
    · have := i1 j hj
      rw [ky j (by omega), hpk] at this
      exact this
    · have := i2 j h1 h2
      rw [ky j h2, hpk] at this
      exact this
  subst ei
  have hq1 := hR1.q.1
  have hT' := hq1.ty
  have k26' : (s1.K (G 1 r)).1 = 26 := (hq1.rt hr).1.1
  have eH : ∀ g, H' g (G 1 r) = H g (G 1 r) := fun g => hA1.u k26 g
  have eX : ∀ g, H' g x = H g x := fun g => hA1.u kx g
  rw [← eH] at hT1 hw1 ⊢
  rw [← eX] at hpe hop k238 ⊢
  have kx1 := hq1.1.1
  have k238' := hT'.p kx1 238 18
  have k239' := hT'.p kx1 239 39
  have pfr : ∀ {q : Nat} {F n : Int32} {a b : Int64}, PF s q F a b n → (s.K q).1 ≠ 0 → PF s1 q F a b n := fun {q F n a b} z hz => by
    obtain ⟨a1, a2, a3, a4⟩ := z
    have := (f1 q hz).2.1 (by simp)
    exact ⟨by rw [this.1]; exact a1, by rw [this.2.1]; exact a2, by rw [this.2.1]; exact a3, by rw [this.1]; exact a4⟩
  have hp1 : PF s1 (H' 238 x) (fam (nI f)) ph pl n := pfr hpe (by rw [k238.2]; decide)
  have hop1 : PF s1 (H' 239 x) (fam (nI f)) gh gl gn := pfr hop (by rw [eX, (hT.p kx 239 39).2]; decide)
  have hpr : H' 238 x ≠ H' 186 (G 1 r) := ne_ro k238'.2 (hT'.p k26' 186 27).2
  have hdo : dueOk t r 1 1 (-1) 0 := ⟨Or.inr rfl, ⟨1, rfl, by omega, by omega⟩, ⟨0, rfl, by omega, by omega⟩, fun z => absurd z (by decide), fun _ => rfl⟩
  have hnew : cN t r < G 13 r ∧ hw' = G 13 r ∧ a = G 4 (2700 * r + cN t r) ∨ cN t r = G 13 r ∧ hw' = G 13 r + 1 ∧ ∀ r' j, r' < cR t → j < G 13 r' → G 4 (2700 * r' + j) ≠ a := by
    rcases hnw with z | ⟨z1, z2, z3⟩
    · exact Or.inl z
    · refine Or.inr ⟨z1, z2, fun r' j hr'' hj z => ?_⟩
      obtain ⟨-, -, -, w0, cap0, -, -, -, -, -, d6, -⟩ := (hq.tb hr'').1
      have := (d6 j hj).2
      have this : (s.K (G 4 (2700 * r' + j))).1 = 23 := this
      rw [z, z3] at this
      exact absurd this (by decide)
  have hlt : ∀ j, j < i0 → kyR t (2700 * r + j) < kyV (nI f) ph pl n := fun j hj => by
    have := l1 j hj
    have h2 := hnf j (by omega)
    omega
  have hRi := rr_ins (hw' := hw') (dk := 1) (dm := 1) (di := -1) (dt := 0) hR1 hM hr rfl h8 hins hi' hw1 hK1 hnc ka hnew hp1 hpr hdo
  have hMi := mv_ins (dk := 1) (dm := 1) (di := -1) (dt := 0) hM hr rfl h8 hins hi' hf' hlt l2 hdo
  have im := ins_mod (dk := 1) (dm := 1) (di := -1) (dt := 0) hins rfl h8 hi'
  have ct := im.1
  have e105 := im.2.1
  have oI := im.2.2.2.2.1
  have oJ := im.2.2.2.2.2.1
  have vP := im.2.2.2.2.2.2.1
  have hk : 2700 * r + i0 < 16200 := by omega
  have hb2' : 2700 * r ≤ 2700 * r + i0 ∧ 2700 * r + i0 < 2700 * r + 2700 := by omega
  have hrb : r < cR (setM t2 (2700 * r + i0) 1 1 (-1) 0) := by unfold cR; rw [ct.1.S 37 (by decide)]; exact hr
  have hjb : i0 < cN (setM t2 (2700 * r + i0) 1 1 (-1) 0) r := by
    unfold cN
    rw [e105, nI_clamp (by omega)]
    omega
  have hIb : p < cI (setM t2 (2700 * r + i0) 1 1 (-1) 0) r := by unfold cI; rw [ct.1.I 70 (by decide)]; exact hp
  have eG1 : insG G r i0 (cN t r) a hw' 1 = G 1 := insG_o (by decide) (by decide)
  have eG2 : insG G r i0 (cN t r) a hw' 2 = G 2 := insG_o (by decide) (by decide)
  have eG4 : insG G r i0 (cN t r) a hw' 4 (2700 * r + i0) = a := by rw [insG_4 (by omega), if_neg (by omega), if_pos rfl]
  obtain ⟨q1, q2, q3, q4⟩ := hm
  have hf2 := hH.2.2.2.2
  have hTo := rr_to (gh := gh) (gl := gl) (tm := t.S 1) (to := t.I 41 r) (ga := t.I 42 r) (gn := gn) (hn := if f = 0 then 32 else 128) (h := h) (l := l) (p := p) (metric := metric) (tag := tgF (fun j => L.getD j 0) f i) hRi hMi hrb hjb eG4.symm rfl hIb ⟨q1, q2, q3, by omega⟩ (tg_rng (i := i) hB hf2).1 (F := fam (nI f)) (by rw [vP.1]) (by rw [ct.1.Z 164 (by decide)]; exact e164) (by rw [ct.1.Z 165 (by decide)]; exact e165) (ct.1.S 1 (by decide)) (by rw [ct.1.I 41 (by decide)]) (by rw [ct.1.I 42 (by decide)])
  rw [eG1, eG2] at hTo
  unfold inC at hTo
  have k161 := hT'.p ka 161 10
  have k162 := hT'.p ka 162 11
  have k160 := hT'.p ka 160 9
  have ktb := (hT'.p k26' 186 27).2
  have kw' : (s1.K w').1 = 135 := by rw [hK1]
  have hs2 : rwC G H' r a w' s1 (bgS (cSI (cQs s1 w' (inF (s1.Q w') i0 (cN t r) a)) 201 (H' 186 (G 1 r)) (nI (cN t r + 1))) a (H' 238 x) (H' 160 a) (H' 161 a) (H' 162 a) 0 16) := (rwC.q.tr (rwC.i (Or.inl rfl))).tr rwC.bg
  have b163 : (bgS (cSI (cQs s1 w' (inF (s1.Q w') i0 (cN t r) a)) 201 (H' 186 (G 1 r)) (nI (cN t r + 1))) a (H' 238 x) (H' 160 a) (H' 161 a) (H' 162 a) 0 16).I 163 a = 2 := by
    rw [bgI]
    simp [ne_ro ka k160.2, ne_ro ka k161.2, ne_ro ka k162.2]
  have b164 : (bgS (cSI (cQs s1 w' (inF (s1.Q w') i0 (cN t r) a)) 201 (H' 186 (G 1 r)) (nI (cN t r + 1))) a (H' 238 x) (H' 160 a) (H' 161 a) (H' 162 a) 0 16).I 164 a = 16 := by
    rw [bgI, if_neg (by omega), if_pos ⟨rfl, rfl⟩]
  generalize hsb : bgS (cSI (cQs s1 w' (inF (s1.Q w') i0 (cN t r) a)) 201 (H' 186 (G 1 r)) (nI (cN t r + 1))) a (H' 238 x) (H' 160 a) (H' 161 a) (H' 162 a) 0 16 = sb at hs2 b163 b164 hTo ⊢
  have eif : ifp G (-1) = none := if_pos rfl
  rw [eif, to_bo b163 (ne_ro k161.2 ka), to_set] at hTo
  -- the model
  have hN := hM.1.1
  have nR : ∀ g, g ∈ fRA → t2.N g = 16200 := by
    intro g hg
    have : ∀ g, g ∈ fRA → g ∉ mG ∧ moN0 g = 16200 := by decide +kernel
    rw [hins.1.2 g (Or.inr (this g hg).1)]
    exact hN.n g 16200 (this g hg)
  have nX : ∀ g, g ∉ mG → t2.N g = t.N g := fun g hg => hins.1.2 g (Or.inr hg)
  generalize htR : moSI (moSI (moSI t2 110 (2700 * r + i0) 2) 111 (2700 * r + i0) 99) 113 (2700 * r + i0) (-1) = tR at hTo
  have nRR : tR.N = t2.N := by rw [← htR]; rfl
  have v111 : tR.I 111 (2700 * r + i0) = 99 := by
    rw [← htR, moSI_n (by decide), moSI_s]
    exact upd_s
  have v110 : tR.I 110 (2700 * r + i0) = 2 := by
    rw [← htR, moSI_n (by decide), moSI_n (by decide), moSI_s]
    exact upd_s
  have n99 : tR.I 111 (2700 * r + i0) ≠ metric := by
    rw [v111, q2]
    intro z
    have := nI_inj (a := 99) z (by decide) (by omega)
    omega
  have ov := (m_over (t := tR) (r := r) (k := 2700 * r + i0) (metric := metric) (q := nI (4 * r + p)) (tag := tgF (fun j => L.getD j 0) f i) (h := h) (l := l) (fun g hg => by rw [nRR]; exact nR g hg) (by rw [nRR, nX 45 (by decide)]; exact hN.n 45 66) (by rw [nRR, nX 44 (by decide)]; exact hN.n 44 6) (by rw [nRR, nX 41 (by decide)]; exact hN.n 41 6) (by rw [nRR, nX 42 (by decide)]; exact hN.n 42 6) (by omega) hk).2 (fun z => n99 z.1)
  have eM : lnN t (nI r) (nI (4 * r + p)) (nI f) metric (tgF (fun j => L.getD j 0) f i) h l = some (mkM (toM tR r (2700 * r + i0) (nI (4 * r + p)) metric (tgF (fun j => L.getD j 0) f i) h l) r (2700 * r + i0)) := by
    unfold lnN
    rw [z13, z14, s15, hI, bn2_s, wrI_n (nR 110 (by decide)) hk (by decide)]
    simp only [Option.bind_some]
    rw [wrI_n (t := moSI t2 110 (2700 * r + i0) 2) (nR 111 (by decide)) hk (by decide)]
    simp only [Option.bind_some]
    rw [wrI_n (t := moSI (moSI t2 110 (2700 * r + i0) 2) 111 (2700 * r + i0) 99) (nR 113 (by decide)) hk (by decide)]
    simp only [Option.bind_some]
    rw [htR, ov]
    rfl
  -- what it leaves
  have eF : toM (moSI (setM t2 (2700 * r + i0) 1 1 (-1) 0) 110 (2700 * r + i0) 2) r (2700 * r + i0) (nI (4 * r + p)) metric (tgF (fun j => L.getD j 0) f i) h l = toM tR r (2700 * r + i0) (nI (4 * r + p)) metric (tgF (fun j => L.getD j 0) f i) h l := by rw [to_set, htR]
  have cF1 : rwT r t (toM tR r (2700 * r + i0) (nI (4 * r + p)) metric (tgF (fun j => L.getD j 0) f i) h l) := by
    rw [← eF]
    exact (ct.tr (rwT.i (by decide) hb2')).tr (rwT_to hb2')
  have oI' : ∀ g y, y ≠ 2700 * r + i0 → (toM tR r (2700 * r + i0) (nI (4 * r + p)) metric (tgF (fun j => L.getD j 0) f i) h l).I g y = (setM t2 (2700 * r + i0) 1 1 (-1) 0).I g y := fun g y hy => by
    rw [← eF, toM_I, if_neg hy, evMI, if_neg (fun z => hy z.2)]
  have oJ' : ∀ g y, y ≠ 2700 * r + i0 → (toM tR r (2700 * r + i0) (nI (4 * r + p)) metric (tgF (fun j => L.getD j 0) f i) h l).J g y = (setM t2 (2700 * r + i0) 1 1 (-1) 0).J g y := fun g y hy => by
    rw [← eF, toM_J, if_neg hy]
    rfl
  have aF : AGs (toM tR r (2700 * r + i0) (nI (4 * r + p)) metric (tgF (fun j => L.getD j 0) f i) h l) := by
    have ao : ∀ g, g ∈ [120, 121] → ∀ y, ∃ z, (setM t2 (2700 * r + i0) 1 1 (-1) 0).I g y = t2.I g z ∧ z = y := fun g hg y => by
      refine ⟨y, ?_, rfl⟩
      unfold setM
      have h1 : g ≠ 110 ∧ g ≠ 111 ∧ g ≠ 112 ∧ g ≠ 113 := by revert hg; revert g; decide
      rw [moSI_n h1.2.2.1, moSI_n h1.2.2.2, moSI_n h1.2.1, moSI_n h1.1]
    have a2 : ∀ y, y ≠ 2700 * r + i0 → rng (t2.I 120 y) 0 20000 ∧ rng (t2.I 121 y) 0 1000 := fun y hy => by
      rw [hins.2.2.1 120 (by decide) y hy, hins.2.2.1 121 (by decide) y hy]
      exact hA _
    intro y
    by_cases c : y = 2700 * r + i0
    · rw [← eF, toM_I, toM_I, if_pos c, if_pos c]
      refine ⟨?_, ?_⟩
      · show rng ((setM t2 (2700 * r + i0) 1 1 (-1) 0).S 1) 0 20000
        rw [ct.1.S 1 (by decide)]
        exact hM.1.2.1
      · show rng ((moSI (setM t2 (2700 * r + i0) 1 1 (-1) 0) 110 (2700 * r + i0) 2).I 41 r) 0 1000
        rw [moSI_n (by decide), ct.1.I 41 (by decide)]
        exact (hM.r hr).2.2.1.2.1.wk (by omega) (by omega)
    · rw [oI' _ _ c, oI' _ _ c]
      obtain ⟨z1, e1, rfl⟩ := ao 120 (by decide) y
      obtain ⟨z2, e2, e3⟩ := ao 121 (by decide) z1
      rw [e1, e2, e3]
      exact a2 z1 c
  have n105 : (toM tR r (2700 * r + i0) (nI (4 * r + p)) metric (tgF (fun j => L.getD j 0) f i) h l).I 105 r = nI (cN t r + 1) := by
    rw [← eF, toM_I]
    have : (moSI (setM t2 (2700 * r + i0) 1 1 (-1) 0) 110 (2700 * r + i0) 2).I 105 r = nI (cN t r + 1) := by rw [moSI_n (by decide)]; exact e105
    split
    · exact this
    · exact this
  have v110F : (toM tR r (2700 * r + i0) (nI (4 * r + p)) metric (tgF (fun j => L.getD j 0) f i) h l).I 110 (2700 * r + i0) = 2 := by
    rw [toM_I, if_pos rfl]
    exact v110
  have vPF : pfR (toM tR r (2700 * r + i0) (nI (4 * r + p)) metric (tgF (fun j => L.getD j 0) f i) h l) (2700 * r + i0) = (nI f, ph, pl, n) := by
    have j1 : ∀ g, g ≠ 118 → g ≠ 117 → g ≠ 115 → g ≠ 114 → (toM tR r (2700 * r + i0) (nI (4 * r + p)) metric (tgF (fun j => L.getD j 0) f i) h l).J g (2700 * r + i0) = (setM t2 (2700 * r + i0) 1 1 (-1) 0).J g (2700 * r + i0) := fun g g1 g2 g3 g4 => by
      rw [← eF, toM_J, if_pos rfl, if_neg g1, if_neg g2, if_neg g3, if_neg g4]
      rfl
    have j2 : ∀ g, g = 106 ∨ g = 109 → (toM tR r (2700 * r + i0) (nI (4 * r + p)) metric (tgF (fun j => L.getD j 0) f i) h l).I g (2700 * r + i0) = (setM t2 (2700 * r + i0) 1 1 (-1) 0).I g (2700 * r + i0) := fun g hg => by
      rw [← eF, toM_I, if_pos rfl, if_neg (by omega), if_neg (by omega), if_neg (by omega), if_neg (by omega), if_neg (by omega), if_neg (by omega), if_neg (by omega), moSI_n (by omega)]
    unfold pfR
    rw [j2 106 (Or.inl rfl), j2 109 (Or.inr rfl), j1 107 (by decide) (by decide) (by decide) (by decide), j1 108 (by decide) (by decide) (by decide) (by decide), vP.1, vP.2.1, vP.2.2.1, vP.2.2.2]
  generalize toM tR r (2700 * r + i0) (nI (4 * r + p)) metric (tgF (fun j => L.getD j 0) f i) h l = tF at hTo eM cF1 oI' oJ' aF n105 v110F vPF
  have hrF : r < cR tF := by unfold cR; rw [cF1.1.S 37 (by decide)]; exact hr
  have hjF : i0 < cN tF r := by unfold cN; rw [n105, nI_clamp (by omega)]; omega
  have hMk := rr_mk (a := a) (k := 2700 * r + i0) hTo.1 hTo.2 hrF hjF eG4.symm rfl
  rw [eG1] at hMk
  have lm := ln1.mk (t := tF) (r := r) (k := 2700 * r + i0) hb2' v110F
  have nw : nwT1 r i0 (nI f, ph, pl, n) t (mkM tF r (2700 * r + i0)) := by
    refine ⟨cF1.tr (rwT.mk hb2'), ?_, hi', fun g hg y hy hyn => ?_, fun g hg y hy hyn => ?_, ?_, lm.2.2.2.2.2⟩
    · unfold cN
      rw [lm.2.1, n105, nI_clamp (by omega)]
    · rw [lm.2.2.1 g hg _ (by omega), oI' g _ (by omega)]
      exact oI g hg y hy hyn
    · rw [lm.2.2.2.1 g hg _ (by omega), oJ' g _ (by omega)]
      exact oJ g hg y hy hyn
    · rw [lm.2.2.2.2.1]; exact vPF
  -- the class's take
  have fS := hs2.fr hT' k26' ka kw'
  have okb : ∀ {c b}, okO s1 c b → okO sb c b := fun {c b} hb => by unfold okO at hb ⊢; rw [hs2.1]; exact hb
  have pb : ∀ g b, g ≠ 166 → sb.P g b = s1.P g b := fun g b hg => hs2.2.1 g b hg
  obtain ⟨kA, hbl, hPF, ⟨i44, -, -⟩, -⟩ := hH
  have kA1 : (s1.K A).1 = 6 := f1.r kA
  have p40 := hT'.p kA1 40 3
  have p41 := hT'.p kA1 41 12
  have eA : ∀ g, H' g A = H g A := fun g => hA1.u kA g
  have k195 := hT'.r k26' 195 123 3
  have k196 := hT'.r k26' 196 104 11
  have e180 : s1.P 180 (G 1 r) = some x := by rw [(hT'.p k26' 180 30).1, (hq1.rt hr).1.2.2]
  have X1 : hdX H A s s1 := hdX.fr f1 hT kA rfl (nin6 rfl) (by decide)
  have X1' : hdX H' A s s1 := X1.hA hA1 (by rw [kA]; decide)
  have X2 : hdX H' A s1 sb := hdX.fr fS hT' kA1 rfl (nin6 rfl) (by decide)
  have bl : BL sb (H' 40 A) 129 L 600 := X2.2.2.2.2 L (X1'.2.2.2.2 L (by rw [eA]; exact hbl))
  have pf2 : PF sb (H' 41 A) (fam (nI f)) h l (if f = 0 then 32 else 128) := by
    have z1 : PF s1 (H' 41 A) (fam (nI f)) h l (if f = 0 then 32 else 128) := by
      obtain ⟨y1, y2, y3, y4⟩ := hPF
      rw [← eA] at y1 y2 y3 y4
      exact ⟨(X1'.2.2.1.1 _).trans y1, (X1'.2.2.1.2 _).trans y2, (X1'.2.2.1.2 _).trans y3, (X1'.2.2.1.1 _).trans y4⟩
    exact z1.fr fS p41.2 (by decide)
  have pf1 : PF sb (H' 239 x) (fam (nI f)) gh gl gn := hop1.fr fS k239'.2 (by decide)
  have sbI : sb.I 225 x = t.S 1 := ((fS.v kx1 (by decide)).1 225).trans hq1.2.2.1.2.1
  have et := (hq1.rt hr).2.2.2.1
  have sbE : sb.E (H' 195 (G 1 r)) = s1.E (H' 195 (G 1 r)) := (fS.v (u := 123) (by rw [k195.2]) (by decide)).2.2
  have cF : rwC G H' r a w' s1 (mkS (toS sb (G 1 r) a (H' 161 a) (H' 162 a) (fam (nI f)) gh gl gn h l (if f = 0 then 32 else 128) (some (G 2 (4 * r + p))) (tgF (fun j => L.getD j 0) f i) metric (t.S 1) (t.I 41 r) (t.I 42 r)) (G 1 r) (H' 196 (G 1 r)) x a) := (hs2.tr rwC_to).tr rwC.mk
  have nm : ¬ metric = sb.I 164 a := by
    rw [b164, q2]
    intro z
    have := nI_inj (b := 16) z (by omega) (by decide)
    omega
  refine ⟨okb (okr k26' 9), w_takeR (rr := G 1 r) (hp := H' 239 x) (p1 := H' 161 a) (p2 := H' 162 a) (sp := H' 41 A) (tmr := H' 195 (G 1 r)) (cnt := H' 196 (G 1 r)) (b := H' 40 A) (po := G 2 (4 * r + p)) (F := fam (nI f)) (gh := gh) (gl := gl) (gn := gn) (h := h) (l := l) (hn := if f = 0 then 32 else 128) (by rw [hs2.1]; exact k26') (by rw [hs2.1]; exact ka) (by rw [hs2.1]; exact kx1) (by rw [hs2.1]; exact k239'.2) (by rw [hs2.1]; exact k161.2) (by rw [hs2.1]; exact k162.2) (by rw [hs2.1]; exact p41.2) (by rw [hs2.1]; exact kA1) (by rw [hs2.1]; exact p40.2) (by rw [pb _ _ (by decide)]; exact e180) (by rw [pb _ _ (by decide)]; exact k239'.1) (by rw [pb _ _ (by decide)]; exact k161.1) (by rw [pb _ _ (by decide)]; exact k162.1) (by rw [pb _ _ (by decide)]; exact p41.1) (by rw [pb _ _ (by decide)]; exact p40.1) (by rw [pb _ _ (by decide)]; exact k195.1) (by rw [hs2.1]; exact k195.2) (by rw [pb _ _ (by decide)]; exact k196.1) (by rw [hs2.1]; exact k196.2) hf2 (by rw [X2.1 44 (by decide) (by decide), X1'.1 44 (by decide) (by decide)]; exact i44) bl hi pf1 pf2 (fun _ => ?_) (fun z => absurd z.1 nm)⟩
  rw [sbI, sbE, et.2.1, et.2.2]
  refine kk i0 (insG G r i0 (cN t r) a hw') H' _ _ kc' ks' eM hMk.1 hMk.2 (ag_mk aF) nw (fun b h4 h13 => insG_o h4 h13) (fun r' hne => by rw [insG_13]; exact if_neg hne) hA1 (((fr_tb1 f1 hP1 (hR.q.1.ty.p (hR.q.1.rt hr).1.1 186 27).2).wk (Rv' := Rtc) (Gp' := Ptb) (Rq' := Qtb)).tr (cF.fr hT' k26' ka kw').wk) (fun b g hne hb hg => ?_) ?_ ?_
  · rw [cF.2.1 g b hg]
    exact hP1 b g hne hb
  · unfold potC
    rw [insG_13]
    show kc + 5 * (2700 - (if r = r then hw' else G 13 r)) ≤ _
    rw [if_pos rfl]
    exact hb1
  · rw [potS_c ht.2.1 hK, potS_c (w := w') (cap := cap') (u := 135) (by rw [eG1, cF.2.1 200 _ (by decide)]; exact hw1) (by rw [cF.1]; exact hK1), insG_13]
    show ks + (24 * (2700 - (if r = r then hw' else G 13 r)) + _) ≤ _
    rw [if_pos rfl]
    exact hb2
end Nx
