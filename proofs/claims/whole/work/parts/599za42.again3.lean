/-! A learned route is heard of again: the class against the model. -/
section Aj
variable {G H : Nat → Nat → Nat} {sa : Nat → Nat} {x kc ks r p j k a A f i : Nat} {s : cS} {t : moS} {metric po ho gn : Int32} {gh gl h l : Int64} {L : List Int32} {Q : cS → Nat → Nat → Prop}
/-- how it goes on -/
def AgK (G H : Nat → Nat → Nat) (sa : Nat → Nat) (x : Nat) (s : cS) (t : moS) (r k kc ks : Nat) (o : Option moS) (Q : cS → Nat → Nat → Prop) : Prop := ∀ s' t', o = some t' → RR G H sa x s' t' → MV t' → AGs t' → (t' = t ∨ ln1 r k t t') → s'.K = s.K → (∀ g b, g ≠ 166 → s'.P g b = s.P g b) → fr Rhr [(166, 23)] [] s s' → Q s' kc ks
theorem c_again (hR : RR G H sa x s t) (hM : MV t) (hA : AGs t) (hr : r < cR t) (hj : j < cN t r) (ea : a = G 4 (2700 * r + j)) (ek : k = 2700 * r + j) (hp : p < cI t r) (hm : rng metric 1 16) (hH : HE H s A L f h l po ho) (hB : ∀ j, L.getD j 0 = nI (vc L j)) (hi : i < 1000) (h106 : t.I 106 k = nI f) (hop : PF s (H 239 x) (fam (nI f)) gh gl gn) (e164 : t.Z 164 = gh) (e165 : t.Z 165 = gl) (kk : AgK G H sa x s t r k kc ks (lnT t (nI r) (nI (4 * r + p)) metric (tgF (fun j => L.getD j 0) f i) h l (nI k)) Q) : C_Rr_hearAgain sa (G 1 r) (some a) (some A) (nI i) (some (G 2 (4 * r + p))) metric s kc ks Q := by
  have h6 := hM.nR
  have hn' := hM.nRo hr
  have h4 := hM.nIf hr
  have hq := hR.q.1
  have hT := hq.ty
  obtain ⟨b0, b1, b2⟩ := hq.tb hr
  obtain ⟨c1, c2, c3, w, cap, d1, d2, d3, d4, d5, d6, d7, d8⟩ := id b0
  have k1 := (hq.rt hr).1.1
  have ka : (s.K a).1 = 23 := by rw [ea]; exact (d6 j (by omega)).2
  have oa := okr ka 8
  have or' := okr k1 9
  have k10 := hT.p ka 161 10
  have k11 := hT.p ka 162 11
  have k195 := hT.r k1 195 123 3
  have kx := hq.1.1
  have ox := okr kx 11
  have p180 : s.P 180 (G 1 r) = some x := by rw [(hT.p k1 180 30).1, (hq.rt hr).1.2.2]
  have p239 := hT.p kx 239 39
  have hH' := hH
  obtain ⟨kA, hb, hPF, ⟨i44, -, -⟩, hf⟩ := hH
  have p41 := hT.p kA 41 12
  have hRW := b1 j hj
  rw [← ea, ← ek] at hRW
  have hmr := (hM.r hr).w hj
  rw [← ek] at hmr
  obtain ⟨-, ⟨e1, e2, e3, -⟩, e4, ⟨e5, e6, e7⟩, e13, e14, e15⟩ := hRW
  have hN := hM.1.1
  have nR : ∀ k, k ∈ fRA → t.N k = 16200 := by
    intro g hg
    have : ∀ g, g ∈ fRA → g ∉ mG ∧ moN0 g = 16200 := by decide +kernel
    exact hN.n g 16200 (this g hg)
  have hk : k < 16200 := by rw [ek]; omega
  have e225 : s.I 225 x = t.S 1 := hq.2.2.1.2.1
  have et := (hq.rt hr).2.2.2.1
  have ra : G 1 r ≠ a := ne_ro k1 ka
  have hb2 : 2700 * r ≤ k ∧ k < 2700 * r + 2700 := by omega
  have es : ifp G (nI (4 * r + p)) = some (G 2 (4 * r + p)) := by
    unfold ifp
    rw [if_neg (nI_ne (by omega)), nI_clamp (by omega)]
  have ei := ifp_i hq.2.1 hr h4 hmr.2.2.2.2.2.1 (i' := nI (4 * r + p)) (Or.inr ⟨4 * r + p, rfl, by omega, by omega⟩) (by omega)
  unfold C_Rr_hearAgain
  refine ⟨a, rfl, _, gd_to oa, ?_⟩
  rw [show s.I (20 * 8 + 3) a = t.I 110 k from e1]
  by_cases c2 : t.I 110 k = 2
  rotate_left
  · refine ifF c2 (kk s t ?_ hR hM hA (Or.inl rfl) rfl (fun _ _ _ => rfl) fr.rf)
    unfold lnT
    rw [rdI_n (nR 110 (by decide)) hk (by decide)]
    exact if_neg c2
  rw [m_again nR (hN.n 41 6) (by omega) hk c2] at kk
  have e116 : t.I 116 k = t.I 113 k := hmr.2.2.2.2.2.2.2.2.2.2.1 c2
  -- behind the restart
  have fin : ∀ (s1 : cS) (t1 : moS), t1 = (if stP' t k (nI (4 * r + p)) metric h l then tmT t r k else t) → RR G H sa x s1 t1 → MV t1 → AGs t1 → (t1 = t ∨ ln1 r k t t1) → s1.K = s.K → s1.P = s.P → fr Rhr [(166, 23)] [] s s1 → ∀ v : Int32, (v = 0 ∨ v = 1) → (v = 1 ↔ tkP t k (nI (4 * r + p)) metric h l) → C_Rr_hearAgain_b215 sa (G 1 r) (some a) (some A) (nI i) (some (G 2 (4 * r + p))) metric v s1 kc ks Q := fun s1 t1 et1 R1 M1 A1 l1 K1 P1 f1 v hv hvt => by
    have mt : mfr Wrow t t1 := by
      rcases l1 with z | z
      · rw [z]; exact mfr.rf
      · exact z.1.1
    unfold C_Rr_hearAgain_b215
    rcases hv with rfl | rfl
    · have nt : ¬ tkP t k (nI (4 * r + p)) metric h l := fun z => absurd (hvt.mpr z) (by decide)
      refine ifT rfl (kk s1 t1 ?_ R1 M1 A1 l1 K1 (fun g b _ => by rw [P1]) f1)
      rw [if_neg nt, et1]
    · have yt := hvt.mp rfl
      have eR : cR t1 = cR t := by unfold cR; rw [mt.S 37 (by decide)]
      have eI : cI t1 r = cI t r := by unfold cI; rw [mt.I 70 (by decide)]
      have eN : cN t1 r = cN t r := by
        rcases l1 with z | z
        · rw [z]
        · unfold cN; rw [z.2.1]
      have g110 : t1.I 110 k = 2 := by
        rcases l1 with z | z
        · rw [z]; exact c2
        · exact z.2.2.2.2.2
      have g106 : t1.I 106 k = nI f := by
        rcases l1 with z | z
        · rw [z]; exact h106
        · exact (congrArg (fun y : Pf => y.1) z.2.2.2.2.1).trans h106
      have hH1 : HE H s1 A L f h l po ho := hH'.hx (hdX.fr f1 hT kA rfl (nin6 rfl) (by decide)) (by rw [K1]; exact kA)
      have hop1 : PF s1 (H 239 x) (fam (nI f)) gh gl gn := hop.fr f1 p239.2 (by decide)
      refine ifF (by decide) ⟨by unfold okO; rw [K1]; exact or', c_takeE R1 M1 A1 (by rw [eR]; exact hr) (by rw [eN]; exact hj) ea ek (by rw [eI]; exact hp) hm hH1 hB hi g110 g106 hop1 (by rw [mt.Z 164 (by decide)]; exact e164) (by rw [mt.Z 165 (by decide)]; exact e165) fun s' t' q1 q2 q3 q4 q5 q6 q7 q8 => ?_⟩
      refine kk s' t' ?_ q2 q3 q4 (Or.inr ?_) (q6.trans K1) (fun g b hg => by rw [q7 g b hg, P1]) (f1.tr q8)
      · rw [if_pos yt, ← et1]; exact q1
      · rcases l1 with z | z
        · rw [← z]; exact q5
        · exact z.tr q5
  have noSt : ¬ stP' t k (nI (4 * r + p)) metric h l → ∀ v : Int32, (v = 0 ∨ v = 1) → (v = 1 ↔ tkP t k (nI (4 * r + p)) metric h l) → C_Rr_hearAgain_b215 sa (G 1 r) (some a) (some A) (nI i) (some (G 2 (4 * r + p))) metric v s kc ks Q := fun ns v hv hvt => fin s t (by rw [if_neg ns]) hR hM hA (Or.inl rfl) rfl rfl fr.rf v hv hvt
  have r111 := hmr.2.2.1
  have lt16 : t.I 111 k < 16 ↔ t.I 111 k ≠ 16 := by
    obtain ⟨n, en, n1, n2⟩ := r111
    rw [en]
    constructor
    · intro z y
      rw [y] at z
      exact absurd z (by decide)
    · intro z
      refine nI_lt (b := 16) ?_ (by decide)
      rcases Nat.lt_or_ge n 16 with y | y
      · exact y
      · exact absurd (show nI n = 16 by rw [show n = 16 by omega]; rfl) z
  -- from it
  have b37 : ∀ v : Int32, (v = 0 ∨ v = 1) → (v = 1 ↔ frP t k (nI (4 * r + p)) h l) → C_Rr_hearAgain_b37 sa (G 1 r) (some a) (some A) (nI i) (some (G 2 (4 * r + p))) metric v s kc ks Q := fun v hv hvf => by
    have b53 : ∀ u : Int32, (u = 0 ∨ u = 1) → (u = 1 ↔ metric < t.I 111 k) → C_Rr_hearAgain_b53 sa (G 1 r) (some a) (some A) (nI i) (some (G 2 (4 * r + p))) metric v u s kc ks Q := fun u hu hul => by
      unfold C_Rr_hearAgain_b53
      by_cases cv : v = 0
      · have nf : ¬ frP t k (nI (4 * r + p)) h l := fun z => by
          have := hvf.mpr z
          rw [cv] at this
          exact absurd this (by decide)
        have ns : ¬ stP' t k (nI (4 * r + p)) metric h l := fun z => nf z.1
        refine ifT cv ?_
        by_cases cu : u = 0
        · have nl : ¬ metric < t.I 111 k := fun z => by
            have := hul.mpr z
            rw [cu] at this
            exact absurd this (by decide)
          have end0 : ¬ haP t k metric → ∀ v', v' = 0 → C_Rr_hearAgain_b215 sa (G 1 r) (some a) (some A) (nI i) (some (G 2 (4 * r + p))) metric v' s kc ks Q := fun nh v' hv' => noSt ns v' (Or.inl hv') ⟨fun z => by rw [hv'] at z; exact absurd z (by decide), fun z => by
            rcases z with z | z | z
            · exact absurd z nl
            · exact absurd z.1 nf
            · exact absurd z.2 nh⟩
          refine ifT cu ⟨a, rfl, _, gd_to oa, ?_⟩
          rw [show s.I (20 * 8 + 4) a = t.I 111 k from e2]
          by_cases m1 : metric = t.I 111 k
          rotate_left
          · exact ifF m1 (end0 (fun z => m1 z.1) u cu)
          refine ifT m1 ?_
          by_cases m2 : metric < 16
          rotate_left
          · exact ifF m2 (end0 (fun z => m2 z.2.1) u cu)
          have n16 : t.I 111 k ≠ 16 := lt16.mp (by rw [← m1]; exact m2)
          obtain ⟨y1, y2, y3⟩ := e13 c2 n16
          refine ifT m2 ⟨_, gd_to or', x, p180, _, gd_to ox, _, gd_to oa, _, gd_to oa, ?_⟩
          rw [show s.I (20 * 11 + 5) x = t.S 1 from e225, show s.I (20 * 8 + 8) a = t.I 120 k from y1, show s.I (20 * 8 + 9) a = t.I 121 k from y2]
          unfold C_Rr_hearAgain_b213
          by_cases m3 : t.S 1 - t.I 120 k < (t.I 121 k + 1) / 2
          · exact ifT m3 (end0 (fun z => z.2.2 m3) 0 rfl)
          · exact ifF m3 (noSt ns 1 (Or.inr rfl) ⟨fun _ => Or.inr (Or.inr ⟨nf, m1, m2, m3⟩), fun _ => rfl⟩)
        · have u1 : u = 1 := hu.resolve_left cu
          exact ifF cu (noSt ns u hu ⟨fun z => Or.inl (hul.mp z), fun _ => u1⟩)
      · have v1 : v = 1 := hv.resolve_left cv
        have yf := hvf.mp v1
        have b137 : ∀ w : Int32, (w = 0 ∨ w = 1) → (w = 1 ↔ (diP t k metric ∧ ¬ (t.I 111 k = 16 ∧ metric = 16))) → C_Rr_hearAgain_b137 sa (G 1 r) (some a) (some A) (nI i) (some (G 2 (4 * r + p))) metric u w s kc ks Q := fun w hw hwd => by
          have orv : (u ||| w = 0 ∨ u ||| w = 1) ∧ (u ||| w = 1 ↔ u = 1 ∨ w = 1) := by
            rcases hu with rfl | rfl <;> rcases hw with rfl | rfl <;> decide
          have tkv : u ||| w = 1 ↔ tkP t k (nI (4 * r + p)) metric h l := by
            rw [orv.2, hul, hwd]
            constructor
            · rintro (z | z)
              · exact Or.inl z
              · exact Or.inr (Or.inl ⟨yf, z⟩)
            · rintro (z | z | z)
              · exact Or.inl z
              · exact Or.inr z.2
              · exact absurd yf z.1
          unfold C_Rr_hearAgain_b137
          refine ⟨a, rfl, _, gd_to oa, ?_⟩
          rw [show s.I (20 * 8 + 4) a = t.I 111 k from e2]
          by_cases m1 : t.I 111 k < 16
          rotate_left
          · exact ifF m1 (noSt (fun z => m1 (lt16.mpr z.2.1)) _ orv.1 tkv)
          refine ifT m1 ?_
          by_cases m2 : metric < 16
          rotate_left
          · exact ifF m2 (noSt (fun z => m2 z.2.2) _ orv.1 tkv)
          have n16 := lt16.mp m1
          have yst : stP' t k (nI (4 * r + p)) metric h l := ⟨yf, n16, m2⟩
          obtain ⟨R1, M1⟩ := rr_tmo (tm := t.S 1) (to := t.I 41 r) hR hM hr hj ea ek c2 n16
          obtain ⟨nK, nP, nE, nQ, nJ⟩ := dlS_k (s := cSI (cSI s 168 a (t.S 1)) 169 a (t.I 41 r)) (rr := G 1 r) (a := a) (v := t.S 1 + t.I 41 r)
          refine ifT m2 ⟨or', w_timeout or' oa ox p180 k195.1 k195.2 ra ?_⟩
          rw [e225, et.2.1]
          refine fin _ (tmT t r k) (by rw [if_pos yst]) R1 M1 (ag_tm hA hM hr rfl rfl) (Or.inr (ln1_tm hb2 c2)) nK nP (fun b hb' => ?_) _ orv.1 tkv
          refine ⟨by rw [nK]; rfl, fun hv => ⟨fun g => ?_, fun g => by rw [nJ]; rfl, by rw [nE]; rfl⟩, fun g _ => by rw [nP]; rfl, fun _ => by rw [nQ]; rfl⟩
          have na : b ≠ a := fun z => hv (by rw [z, ka]; decide)
          have nr : b ≠ G 1 r := fun z => hv (by rw [z, k1]; decide)
          unfold dlS
          split
          · rw [evI, if_neg (fun z => nr z.2), evI, if_neg (fun z => na z.2), evI, if_neg (fun z => na z.2), evI, if_neg (fun z => na z.2)]
          · rw [evI, if_neg (fun z => na z.2), evI, if_neg (fun z => na z.2), evI, if_neg (fun z => na z.2)]
        have b118 : ∀ (w d : Int32), (w = 0 ∨ w = 1) → (w = 1 ↔ (t.I 111 k = 16 ∧ metric = 16)) → (d = 0 ∨ d = 1) → (d = 1 ↔ diP t k metric) → C_Rr_hearAgain_b118 sa (G 1 r) (some a) (some A) (nI i) (some (G 2 (4 * r + p))) metric u w d s kc ks Q := fun w d hw hwb hd hdd => by
          unfold C_Rr_hearAgain_b118
          by_cases cd : d = 0
          · refine ifT cd (b137 0 (Or.inl rfl) ⟨fun z => absurd z (by decide), fun z => ?_⟩)
            have := hdd.mpr z.1
            rw [cd] at this
            exact absurd this (by decide)
          · have d1 : d = 1 := hd.resolve_left cd
            refine ifF cd ?_
            by_cases cw : w = 0
            · refine ifT cw (b137 1 (Or.inr rfl) ⟨fun _ => ⟨hdd.mp d1, fun z => ?_⟩, fun _ => rfl⟩)
              have := hwb.mpr z
              rw [cw] at this
              exact absurd this (by decide)
            · have w1 : w = 1 := hw.resolve_left cw
              exact ifF cw (b137 0 (Or.inl rfl) ⟨fun z => absurd z (by decide), fun z => absurd (hwb.mp w1) z.2⟩)
        have b85 : ∀ w : Int32, (w = 0 ∨ w = 1) → (w = 1 ↔ (t.I 111 k = 16 ∧ metric = 16)) → C_Rr_hearAgain_b85 sa (G 1 r) (some a) (some A) (nI i) (some (G 2 (4 * r + p))) metric u w s kc ks Q := fun w hw hwb => by
          unfold C_Rr_hearAgain_b85
          refine ⟨a, rfl, _, gd_to oa, ?_⟩
          rw [show s.I (20 * 8 + 4) a = t.I 111 k from e2]
          by_cases m1 : metric = t.I 111 k
          rotate_left
          · exact ifF m1 (b118 w 1 hw hwb (Or.inr rfl) ⟨fun _ => fun z => m1 z.1, fun _ => rfl⟩)
          refine ifT m1 ⟨_, gd_to oa, _, gd_to or', x, p180, _, gd_to ox, _, k10.1, okr k10.2 5, ?_⟩
          rw [show s.P (20 * 11 + 19) x = some (H 239 x) from p239.1]
          refine w_same (okr k10.2 5) (okr p239.2 5) (fun z => ?_) (fun z => ?_)
          · rw [e5, e6, e7, hop.1, hop.2.1, hop.2.2.1, h106] at z
            exact ifT rfl (b118 w 1 hw hwb (Or.inr rfl) ⟨fun _ => fun y => z ⟨rfl, y.2.1.trans e164, y.2.2.trans e165⟩, fun _ => rfl⟩)
          · rw [e5, e6, e7, hop.1, hop.2.1, hop.2.2.1, h106] at z
            exact ifF (by decide) (b118 w 0 hw hwb (Or.inl rfl) ⟨fun y => absurd y (by decide), fun y => absurd ⟨m1, z.2.1.trans e164.symm, z.2.2.trans e165.symm⟩ y⟩)
        refine ifF cv ⟨a, rfl, _, gd_to oa, ?_⟩
        rw [show s.I (20 * 8 + 4) a = t.I 111 k from e2]
        by_cases m1 : t.I 111 k = 16
        rotate_left
        · exact ifF m1 (b85 0 (Or.inl rfl) ⟨fun z => absurd z (by decide), fun z => absurd z.1 m1⟩)
        refine ifT m1 ?_
        by_cases m2 : metric = 16
        · exact ifT m2 (b85 1 (Or.inr rfl) ⟨fun _ => ⟨m1, m2⟩, fun _ => rfl⟩)
        · exact ifF m2 (b85 0 (Or.inl rfl) ⟨fun z => absurd z (by decide), fun z => absurd z.2 m2⟩)
    unfold C_Rr_hearAgain_b37
    refine ⟨a, rfl, _, gd_to oa, ?_⟩
    rw [show s.I (20 * 8 + 4) a = t.I 111 k from e2]
    by_cases cl : metric < t.I 111 k
    · exact ifT cl (b53 1 (Or.inr rfl) ⟨fun _ => cl, fun _ => rfl⟩)
    · exact ifF cl (b53 0 (Or.inl rfl) ⟨fun z => absurd z (by decide), fun z => absurd z cl⟩)
  refine ifT c2 ⟨_, gd_to oa, ?_⟩
  rw [show s.P (20 * 8 + 6) a = ifp G (t.I 113 k) from e4, ← es]
  by_cases cp : ifp G (t.I 113 k) = ifp G (nI (4 * r + p))
  rotate_left
  · refine ifF cp (by rw [es]; exact b37 0 (Or.inl rfl) ⟨fun z => absurd z (by decide), fun z => absurd (ei.mpr (e116.symm.trans z.1)) cp⟩)
  have e113 := ei.mp cp
  obtain ⟨y1, y2, y3⟩ := e15 c2 (by rw [e113]; exact nI_ne (by omega))
  refine ifT cp ⟨_, gd_to oa, A, rfl, _, gd_to (okr kA 2), _, k11.1, okr k11.2 5, ?_⟩
  rw [show s.P (20 * 2 + 1) A = some (H 41 A) from p41.1, es]
  obtain ⟨z1, z2, z3, z4⟩ := hPF
  refine w_same (okr k11.2 5) (okr p41.2 5) (fun z => ?_) (fun z => ?_)
  · rw [y1, y2, y3, z1, z2, z3, h106] at z
    exact ifT rfl (b37 0 (Or.inl rfl) ⟨fun y => absurd y (by decide), fun y => absurd ⟨rfl, y.2⟩ z⟩)
  · rw [y1, y2, y3, z1, z2, z3, h106] at z
    exact ifF (by decide) (b37 1 (Or.inr rfl) ⟨fun _ => ⟨e116.trans e113, z.2⟩, fun _ => rfl⟩)
end Aj
