/-! A learned route is heard of again: both sides. -/
abbrev Rhr : List Nat := [10, 11, 23, 26, 104]
theorem cSI_sm {s : cS} {g a : Nat} {v : Int32} (h : s.I g a = v) : cSI s g a v = s := by
  have := cSI_id (s := s) (g := g) (a := a) (u := v)
  rw [cSI_ow, h] at this
  exact this
theorem mkS_E {s : cS} {rr cnt x a b : Nat} (h : b ≠ cnt) : (mkS s rr cnt x a).E b = s.E b := by
  unfold mkS
  split
  · show (cSE (cSI s 167 a 1) cnt 7 _).E b = _
    rw [cSE_a h]
    rfl
  · rw [cSE_a h]
    rfl
section Ai
variable {G H : Nat → Nat → Nat} {sa : Nat → Nat} {x kc ks r p j k a A f i : Nat} {s : cS} {t : moS} {metric po ho gn : Int32} {gh gl h l : Int64} {L : List Int32} {Q : cS → Nat → Nat → Prop}
theorem tg_rng (hB : ∀ j, L.getD j 0 = nI (vc L j)) (hf : f = 0 ∨ f = 1) : rng (tgF (fun j => L.getD j 0) f i) 0 65535 ∧ ∀ a, a = (if f = 0 then i + 2 else i + 16) → tgF (fun j => L.getD j 0) f i = nI (vc L a * 256 + vc L (a + 1)) := by
  have key : ∀ a, nbF (fun j => L.getD j 0) a 2 0 = Int64.ofNat (vc L a * 256 + vc L (a + 1)) := fun a => by
    have st : ∀ {A b : Nat} {v : Int32}, v = nI b → A < 2 ^ 32 → b < 256 → (Int64.ofNat A <<< ((Int32.toInt64 (8 : Int32)) &&& 63)) ||| Int32.toInt64 v = Int64.ofNat (A * 256 + b) := fun {A b v} e hA hb => by
      rw [e, nI_L (by omega), show (8 : Int32) = nI 8 from rfl, L_sh 8 (by decide) (by omega)]
      exact L_or 8 (by omega) (by omega) (by omega)
    have b0 := vc_b L a
    show (((Int64.ofNat 0 <<< _) ||| Int32.toInt64 (L.getD a 0)) <<< _) ||| Int32.toInt64 (L.getD (a + 1) 0) = _
    rw [st (hB a) (by omega) b0, st (hB (a + 1)) (by omega) (vc_b _ _), Nat.zero_mul, Nat.zero_add]
  have e : ∀ a, a = (if f = 0 then i + 2 else i + 16) → tgF (fun j => L.getD j 0) f i = nI (vc L a * 256 + vc L (a + 1)) := fun a ha => by
    unfold tgF
    rw [← ha, key, L_toI]
  refine ⟨?_, e⟩
  have b0 := vc_b L (if f = 0 then i + 2 else i + 16)
  have b1 := vc_b L ((if f = 0 then i + 2 else i + 16) + 1)
  exact ⟨_, e _ rfl, by omega, by omega⟩
/-- the take at the end -/
theorem c_takeE (hR : RR G H sa x s t) (hM : MV t) (hA : AGs t) (hr : r < cR t) (hj : j < cN t r) (ea : a = G 4 (2700 * r + j)) (ek : k = 2700 * r + j) (hp : p < cI t r) (hm : rng metric 1 16) (hH : HE H s A L f h l po ho) (hB : ∀ j, L.getD j 0 = nI (vc L j)) (hi : i < 1000) (h2 : t.I 110 k = 2) (h106 : t.I 106 k = nI f) (hop : PF s (H 239 x) (fam (nI f)) gh gl gn) (e164 : t.Z 164 = gh) (e165 : t.Z 165 = gl) (kk : ∀ s' t', Option.bind (M_takeOver t (nI r) (nI (4 * r + p)) (nI k) metric (tgF (fun j => L.getD j 0) f i) h l) (fun s => some s) = some t' → RR G H sa x s' t' → MV t' → AGs t' → ln1 r k t t' → s'.K = s.K → (∀ g b, g ≠ 166 → s'.P g b = s.P g b) → fr Rhr [(166, 23)] [] s s' → Q s' kc ks) : C_Rr_take sa (G 1 r) (some a) (some A) (nI i) (some (G 2 (4 * r + p))) metric s kc ks Q := by
  have h6 := hM.nR
  have hn' := hM.nRo hr
  have h4 := hM.nIf hr
  have hq := hR.q.1
  have hT := hq.ty
  obtain ⟨b0, b1, b2⟩ := hq.tb hr
  obtain ⟨c1, c2, c3, w, cap, d1, d2, d3, d4, d5, d6, d7, d8⟩ := id b0
  have k1 := (hq.rt hr).1.1
  have ka : (s.K a).1 = 23 := by rw [ea]; exact (d6 j (by omega)).2
  have k10 := hT.p ka 161 10
  have k11 := hT.p ka 162 11
  have k195 := hT.r k1 195 123 3
  have k196 := hT.r k1 196 104 11
  have kx := hq.1.1
  have p180 : s.P 180 (G 1 r) = some x := by rw [(hT.p k1 180 30).1, (hq.rt hr).1.2.2]
  have p239 := hT.p kx 239 39
  obtain ⟨kA, hb, hPF, ⟨i44, -, -⟩, hf⟩ := hH
  have p40 := hT.p kA 40 3
  have p41 := hT.p kA 41 12
  have hRW := b1 j hj
  rw [← ea, ← ek] at hRW
  have hmr := (hM.r hr).w hj
  rw [← ek] at hmr
  obtain ⟨-, ⟨e1, e2, e3, -⟩, e4, ⟨e5, e6, e7⟩, -⟩ := hRW
  have hN := hM.1.1
  have nR : ∀ k, k ∈ fRA → t.N k = 16200 := by
    intro g hg
    have : ∀ g, g ∈ fRA → g ∉ mG ∧ moN0 g = 16200 := by decide +kernel
    exact hN.n g 16200 (this g hg)
  have hk : k < 16200 := by rw [ek]; omega
  obtain ⟨o0, o1⟩ := m_over (t := t) (r := r) (k := k) (metric := metric) (q := nI (4 * r + p)) (tag := tgF (fun j => L.getD j 0) f i) (h := h) (l := l) nR (hN.n 45 66) (hN.n 44 6) (hN.n 41 6) (hN.n 42 6) (by omega) hk
  have eq : (metric = s.I 164 a ∧ some (G 2 (4 * r + p)) = s.P 166 a ∧ s.I 100 (H 161 a) = fam (nI f) ∧ s.J 101 (H 161 a) = gh ∧ s.J 102 (H 161 a) = gl) ↔ (t.I 111 k = metric ∧ t.I 113 k = nI (4 * r + p) ∧ t.J 114 k = t.Z 164 ∧ t.J 115 k = t.Z 165) := by
    have ei := ifp_i hq.2.1 hr h4 hmr.2.2.2.2.2.1 (i' := nI (4 * r + p)) (Or.inr ⟨4 * r + p, rfl, by omega, by omega⟩) (by omega)
    have es : ifp G (nI (4 * r + p)) = some (G 2 (4 * r + p)) := by
      unfold ifp
      rw [if_neg (nI_ne (by omega)), nI_clamp (by omega)]
    rw [e2, e4, e5, e6, e7, h106, e164, e165, ← es]
    constructor
    · rintro ⟨y1, y2, -, y4, y5⟩
      exact ⟨y1.symm, ei.mp y2.symm, y4, y5⟩
    · rintro ⟨y1, y2, y4, y5⟩
      exact ⟨y1.symm, (ei.mpr y2).symm, rfl, y4, y5⟩
  have e225 : s.I 225 x = t.S 1 := hq.2.2.1.2.1
  have et := (hq.rt hr).2.2.2.1
  have hid1 : cSI s 163 a 2 = s := cSI_sm (e1.trans h2)
  have hid2 : moSI t 110 k 2 = t := moSI_id h2
  have key := rr_to (gn := gn) (hn := if f = 0 then 32 else 128) (h := h) (l := l) hR hM hr hj ea ek hp hm (tg_rng (i := i) hB hf).1 (F := fam (nI f)) (by rw [h106]) e164 e165 rfl rfl rfl
  rw [hid1, hid2] at key
  have hb2 : 2700 * r ≤ k ∧ k < 2700 * r + 2700 := by omega
  obtain ⟨tk1, tk2, tk3, tk4, tk5⟩ := toK (s := s) (rr := G 1 r) (a := a) (p1 := H 161 a) (p2 := H 162 a) (F := fam (nI f)) (gh := gh) (gl := gl) (gn := gn) (h := h) (l := l) (hn := if f = 0 then 32 else 128) (port := some (G 2 (4 * r + p))) (tag := tgF (fun j => L.getD j 0) f i) (metric := metric) (tm := t.S 1) (to := t.I 41 r) (ga := t.I 42 r)
  have cT : rwC G H r a w s (toS s (G 1 r) a (H 161 a) (H 162 a) (fam (nI f)) gh gl gn h l (if f = 0 then 32 else 128) (some (G 2 (4 * r + p))) (tgF (fun j => L.getD j 0) f i) metric (t.S 1) (t.I 41 r) (t.I 42 r)) := rwC_to
  have fT : fr Rhr [(166, 23)] [] s (toS s (G 1 r) a (H 161 a) (H 162 a) (fam (nI f)) gh gl gn h l (if f = 0 then 32 else 128) (some (G 2 (4 * r + p))) (tgF (fun j => L.getD j 0) f i) metric (t.S 1) (t.I 41 r) (t.I 42 r)) := fun b hb' => by
    have n9 : ∀ v, v ∈ Rhr → ∀ c, (s.K c).1 = v → (s.K b).1 ∉ Rhr → b ≠ c := fun v hv' c hc hn z => hn (by rw [z, hc]; exact hv')
    refine ⟨by rw [tk1], fun hv => ⟨fun g => ?_, fun g => ?_, by rw [tk3]⟩, fun g hg => ?_, fun _ => by rw [tk2]⟩
    · have n1 := n9 26 (by decide) _ k1 hv
      have n2 := n9 23 (by decide) _ ka hv
      have n3 := n9 10 (by decide) _ k10.2 hv
      have n4 := n9 11 (by decide) _ k11.2 hv
      rw [toI, if_neg (fun z => n1 z.2), if_neg (fun z => n2 z.2), if_neg (fun z => n2 z.2.2), if_neg (fun z => n2 z.2.2), if_neg (fun z => n2 z.2), if_neg (fun z => n4 z.2), if_neg (fun z => n4 z.2), if_neg (fun z => n3 z.2), if_neg (fun z => n3 z.2), if_neg (fun z => n2 z.2)]
    · have n3 := n9 10 (by decide) _ k10.2 hv
      have n4 := n9 11 (by decide) _ k11.2 hv
      rw [tk5, if_neg (fun z => n4 z.2), if_neg (fun z => n4 z.2), if_neg (fun z => n3 z.2), if_neg (fun z => n3 z.2)]
    · rw [tk4, if_neg]
      rintro ⟨z1, z2⟩
      exact hg (by rw [z1, z2, ka]; decide)
  have fin : ∀ s', s' = toS s (G 1 r) a (H 161 a) (H 162 a) (fam (nI f)) gh gl gn h l (if f = 0 then 32 else 128) (some (G 2 (4 * r + p))) (tgF (fun j => L.getD j 0) f i) metric (t.S 1) (t.I 41 r) (t.I 42 r) → (∀ g b, g ≠ 166 → s'.P g b = s.P g b) ∧ s'.K = s.K ∧ fr Rhr [(166, 23)] [] s s' := fun s' e => by
    rw [e]
    exact ⟨fun g b hg => by rw [tk4, if_neg (fun z => hg z.1)], tk1, fT⟩
  refine w_takeR (gn := gn) (hn := if f = 0 then 32 else 128) (F := fam (nI f)) (gh := gh) (gl := gl) (h := h) (l := l) (cnt := H 196 (G 1 r)) k1 ka kx p239.2 k10.2 k11.2 p41.2 kA p40.2 p180 p239.1 k10.1 k11.1 p41.1 p40.1 k195.1 k195.2 k196.1 k196.2 hf i44 hb hi hop hPF (fun no => ?_) (fun yes => ?_)
  · rw [e225, et.2.1, et.2.2]
    obtain ⟨f1, f2, f3⟩ := fin _ rfl
    have key2 := rr_mk key.1 key.2 (r := r) (j := j) (by unfold cR; rw [(rwT_to (t := t) hb2).1.S 37 (by decide)]; exact hr) (by unfold cN; rw [(ln1_to (t := t) hb2 h2).2.1]; exact hj) ea ek
    obtain ⟨nK, nP, nQ, nJ⟩ := mkS_K (s := toS s (G 1 r) a (H 161 a) (H 162 a) (fam (nI f)) gh gl gn h l (if f = 0 then 32 else 128) (some (G 2 (4 * r + p))) (tgF (fun j => L.getD j 0) f i) metric (t.S 1) (t.I 41 r) (t.I 42 r)) (rr := G 1 r) (cnt := H 196 (G 1 r)) (x := x) (a := a)
    have ln := (ln1_to (t := t) (q := nI (4 * r + p)) (metric := metric) (tag := tgF (fun j => L.getD j 0) f i) (h := h) (l := l) hb2 h2)
    refine kk _ _ (by rw [o1 (fun z => no (eq.mpr z))]; rfl) key2.1 key2.2 (ag_mk (ag_to hA hM hr)) (ln.tr (ln1.mk hb2 ln.2.2.2.2.2)) (by rw [nK]; exact f2) (fun g b hg => by rw [nP]; exact f1 g b hg) (f3.tr fun b hb' => ?_)
    refine ⟨by rw [nK], fun hv => ⟨fun g => ?_, fun g => by rw [nJ], ?_⟩, fun g _ => by rw [nP], fun _ => by rw [nQ]⟩
    · rw [f2] at hv hb'
      rw [mkS_I (fun z => hv (by rw [z.2, k1]; decide)), if_neg (fun z => hv (by rw [z.2, ka]; decide))]
    · rw [f2] at hv hb'
      exact mkS_E fun z => hv (by rw [z, k196.2]; decide)
  · rw [e225, et.2.1, et.2.2]
    obtain ⟨f1, f2, f3⟩ := fin _ rfl
    exact kk _ _ (by rw [o0 (eq.mp yes)]; rfl) key.1 key.2 (ag_to hA hM hr) (ln1_to hb2 h2) f2 f1 f3
end Ai
