/-! A response is heard: both sides. -/
abbrev Rhe : List Nat := 39 :: Rtc
/-- how it goes on behind a response -/
def HrK (G H : Nat → Nat → Nat) (sa : Nat → Nat) (x : Nat) (Os : Nat → List Pf) (s : cS) (t : moS) (r : Nat) (o : Option moS) (kc ks : Nat) (Q : cS → Nat → Nat → Prop) : Prop := ∀ G' H' s' t' kc' ks', o = some t' → RR G' H' sa x s' t' → MV t' → AGs t' → EX Os t' → mfr Wle t t' → (∀ b, b ≠ 4 → b ≠ 13 → G' b = G b) → (∀ r', r' ≠ r → G' 13 r' = G 13 r') → hA H H' s → fr Rhe Ptb Qtb s s' → (∀ b g, b ≠ H 186 (G 1 r) → (s.K b).1 ≠ 0 → g ≠ 166 → s'.P g b = s.P g b) → kc + potC G' r ≤ kc' + potC G r → ks + potS s' G' H' r ≤ ks' + potS s G H r → Q s' kc' ks'
section Hz
variable {G H G1 H1 : Nat → Nat → Nat} {sa : Nat → Nat} {x kc ks r p A f : Nat} {s s1 : cS} {t t1 : moS} {po ho : Int32} {h l : Int64} {L : List Int32} {Os : Nat → List Pf} {Q : cS → Nat → Nat → Prop}
theorem HrK.tr {o o1 : Option moS} {kc1 ks1 : Nat} (k : HrK G H sa x Os s t r o kc ks Q) (eo : o = o1) (k26 : (s.K (G 1 r)).1 = 26) (m : mfr Wle t t1) (g1 : ∀ b, b ≠ 4 → b ≠ 13 → G1 b = G b) (g2 : ∀ r', r' ≠ r → G1 13 r' = G 13 r') (hh : hA H H1 s) (f1 : fr Rhe Ptb Qtb s s1) (pp : ∀ b g, b ≠ H 186 (G 1 r) → (s.K b).1 ≠ 0 → g ≠ 166 → s1.P g b = s.P g b) (c1 : kc + potC G1 r ≤ kc1 + potC G r) (c2 : ks + potS s1 G1 H1 r ≤ ks1 + potS s G H r) : HrK G1 H1 sa x Os s1 t1 r o1 kc1 ks1 Q := by
  intro G' H' s' t' kc' ks' b1 b2 b3 b4 b5 b6 b7 b8 b9 b10 b11 b12 b13
  have e1 : G1 1 = G 1 := g1 1 (by decide) (by decide)
  have e186 : H1 186 (G 1 r) = H 186 (G 1 r) := hh.u k26 186
  rw [e1, e186] at b11
  exact k G' H' s' t' kc' ks' (eo.trans b1) b2 b3 b4 b5 (m.tr b6) (fun b y1 y2 => (b7 b y1 y2).trans (g1 b y1 y2)) (fun r' y => (b8 r' y).trans (g2 r' y)) (fun g a ha => (b9 g a (by rw [(f1 a ha).1]; exact ha)).trans (hh g a ha)) (f1.tr b10) (fun b g y1 y2 y3 => (b11 b g y1 (by rw [(f1 b y2).1]; exact y2) y3).trans (pp b g y1 y2 y3)) (by omega) (by omega)
theorem L_255 {b : Nat} (hb : b < 256) : Int32.toInt64 (nI b) = 255 ↔ nI b = 255 := by
  rw [nI_L (by omega), show (255 : Int64) = Int64.ofNat 255 from rfl]
  constructor
  · intro z
    have := L_inj (by omega) (by decide) z
    rw [this]
    rfl
  · intro z
    have := nI_inj (b := 255) z (by omega) (by decide)
    rw [this]
/-- what holds at each entry -/
def HI (G H : Nat → Nat → Nat) (sa : Nat → Nat) (x : Nat) (Os : Nat → List Pf) (r p A f i0 n : Nat) (lk po ho : Int32) (h l : Int64) (L : List Int32) (s : cS) (t : moS) (ha la : Int64) (kc ks : Nat) : Prop := (RR G H sa x s t ∧ MV t ∧ AGs t ∧ EX Os t) ∧ (r < cR t ∧ p < cI t r) ∧ HE H s A L f h l po ho ∧ IN t L ∧ t.I 75 (2 * (4 * r + p) + f) ≠ 0 ∧ s.I 51 A = nI (i0 + 20 * n) ∧ (t.S 162 = nI i0 ∧ t.S 163 = nI n ∧ t.I 71 (4 * r + p) = lk) ∧ (f = 0 → la = 0) ∧ (f ≠ 0 → PF s (H 239 x) (fam (nI f)) (gtH t (2 * (4 * r + p) + f) ha la h) (gtL t (2 * (4 * r + p) + f) ha la l) (if f = 0 then 32 else 128)) ∧ potC G r ≤ kc ∧ potS s G H r ≤ ks
theorem hr_loop {i0 n gr gp : Nat} {lk : Int32} {P : Int32 → cS → Nat → Nat → Prop} (hP : ∀ (a3 : Int32) (s : cS) (kc ks : Nat), C_Rr_hearResponse_s19 sa gr (some A) (some gp) a3 s kc ks Q P → P a3 s kc ks) (hB : ∀ j, L.getD j 0 = nI (vc L j)) (hO : ∀ r, (Os r).length ≤ 760) (hn : i0 + 20 * n ≤ L.length) : ∀ d k (G H : Nat → Nat → Nat) (s : cS) (t : moS) (ha la : Int64) (kc ks : Nat), k + d = n → G 1 r = gr → G 2 (4 * r + p) = gp → HI G H sa x Os r p A f i0 n lk po ho h l L s t ha la kc ks → HrK G H sa x Os s t r (lp (fun y : Int64 × Int64 × Int32 × moS => M_takeAll_s29 y.2.2.2 (nI (4 * r + p)) (nI f) h l (nI r) lk (nI (2 * (4 * r + p) + f)) y.1 y.2.1 y.2.2.1) (ha, la, nI k, t)) kc ks Q → P (nI (i0 + 20 * k)) s kc ks := by
  intro d
  induction d with
  | zero =>
    intro k G H s t ha la kc ks hk eg1 eg2 hi kk
    have ek : k = n := by omega
    subst ek
    obtain ⟨⟨hR, hM, hAg, hE⟩, ⟨hr, hp⟩, hH, hI, h75, i51, ⟨s162, s163, e71⟩, -, -, -, -⟩ := hi
    obtain ⟨kA, hb, -⟩ := hH
    have hl6 : L.length ≤ 600 := by obtain ⟨-, -, d, -, -, -, e, -⟩ := hb; exact e
    apply hP
    unfold C_Rr_hearResponse_s19
    refine ⟨A, rfl, _, gd_to (okr kA 2), ?_⟩
    rw [show s.I (20 * 2 + 11) A = nI (i0 + 20 * k) from i51, show nI (i0 + 20 * k) + (20 : Int32) = nI (i0 + 20 * k + 20) from nI_add _ 20]
    refine ifT (nI_lt (by omega) (by omega)) (kk G H s t kc ks ?_ hR hM hAg hE mfr.rf (fun _ _ _ => rfl) (fun _ _ => rfl) hA.rf fr.rf (fun _ _ _ _ _ => rfl) (Nat.le_refl _) (Nat.le_refl _))
    refine lp_x ?_
    show M_takeAll_s29 t (nI (4 * r + p)) (nI f) h l (nI r) lk (nI (2 * (4 * r + p) + f)) ha la (nI k) = _
    unfold M_takeAll_s29
    rw [s163, if_neg (nI_nlt (Nat.le_refl _) (by omega))]
  | succ d ih =>
    intro k G H s t ha la kc ks hk eg1 eg2 hi kk
    obtain ⟨⟨hR, hM, hAg, hE⟩, ⟨hr, hp⟩, hH, hI, h75, i51, ⟨s162, s163, e71⟩, hla, hop, hkc, hks⟩ := hi
    have hH' := hH
    obtain ⟨kA, hb, hPF, ⟨i44, i45, i46⟩, hf⟩ := hH
    have hl6 : L.length ≤ 600 := by obtain ⟨-, -, d, -, -, -, e, -⟩ := hb; exact e
    have hN := hM.1.1
    have hq := hR.q.1
    have hT := hq.ty
    have k26 := (hq.rt hr).1.1
    have kx := hq.1.1
    have p40 := hT.p kA 40 3
    have p239 := hT.p kx 239 39
    have he : i0 + 20 * k + 20 ≤ L.length := by omega
    have o9 : okO s 9 gr := by rw [← eg1]; exact okr k26 9
    have nx : nI (i0 + 20 * k) + (20 : Int32) = nI (i0 + 20 * (k + 1)) := by
      rw [show (20 : Int32) = nI 20 from rfl, nI_add]
      congr 1
    -- the model's place
    have ea : t.S 162 + (20 : Int32) * nI k = nI (i0 + 20 * k) := by rw [s162, show (20 : Int32) = nI 20 from rfl, pk_mul, nI_add]
    -- an entry that is no hop
    have ent : ∀ s1, s1.K = s.K → s1.P = s.P → fr [39] [] [] s s1 → M_takeAll_s29 t (nI (4 * r + p)) (nI f) h l (nI r) lk (nI (2 * (4 * r + p) + f)) ha la (nI k) = M_takeAll_b98 t (nI (4 * r + p)) (nI f) h l (nI r) lk (nI (2 * (4 * r + p) + f)) ha la (nI k) (nI (i0 + 20 * k)) → PF s1 (H 239 x) (fam (nI f)) (gtH t (2 * (4 * r + p) + f) (if f = 0 then hiF (fun j => L.getD j 0) (i0 + 20 * k + 12) 0 else ha) la h) (gtL t (2 * (4 * r + p) + f) (if f = 0 then hiF (fun j => L.getD j 0) (i0 + 20 * k + 12) 0 else ha) la l) (if f = 0 then 32 else 128) → C_Rr_hearResponse_b73 sa gr (some A) (some gp) (nI (i0 + 20 * k)) s1 kc ks Q P := fun s1 eK eP f1 eM pf => by
      have R1 : RR G H sa x s1 t := rr_fr hR hM (hq.1.v eK eP f1 rfl rfl rfl) f1 (mfr.rf (W := [])) rfl rfl rfl rfl rfl rfl rfl
      have H1 : HE H s1 A L f h l po ho := hH'.hx (hdX.fr f1 hT kA rfl (nin6 rfl) (by decide)) (by rw [eK]; exact kA)
      unfold C_Rr_hearResponse_b73
      refine ⟨by unfold okO at o9 ⊢; rw [eK]; exact o9, ?_⟩
      rw [← eg1, ← eg2]
      refine c_entry (n := k) R1 hM hAg hE hO hr hp H1 hI hB he pf hkc (by unfold potS cpT at hks ⊢; rw [eP, eK]; exact hks) ?_
      rw [e71, ← eM]
      intro G' H' s' t' ha' kc' ks' b1 bh b2 b3 b4 b5 b6 b7 b8 b9 b10 b11 b12 b13
      unfold C_Rr_hearResponse_b80
      rw [nx]
      have kA1 : (s1.K A).1 = 6 := by rw [eK]; exact kA
      have kx1 : (s1.K x).1 = 30 := by rw [eK]; exact kx
      have k39 : (s1.K (H 239 x)).1 = 39 := by rw [eK]; exact p239.2
      have e239 : H' 239 x = H 239 x := b9.u kx1 239
      have c13 : potS s1 G H r = potS s G H r := by unfold potS cpT; rw [eP, eK]
      rw [c13] at b13
      refine ih (k + 1) G' H' s' t' ha' la kc' ks' (by omega) ((congrFun (b7 1 (by decide) (by decide)) r).trans eg1) ((congrFun (b7 2 (by decide) (by decide)) _).trans eg2) ⟨⟨b2, b3, b4, b5⟩, ⟨?_, ?_⟩, ?_, hI.fr b6 rfl, ?_, ?_, ⟨?_, ?_, ?_⟩, hla, fun z => ?_, by omega, by omega⟩ (kk.tr (lp_l (f := fun y : Int64 × Int64 × Int32 × moS => M_takeAll_s29 y.2.2.2 (nI (4 * r + p)) (nI f) h l (nI r) lk (nI (2 * (4 * r + p) + f)) y.1 y.2.1 y.2.2.1) b1) k26 b6 b7 b8 (fun g a ha2 => b9 g a (by rw [eK]; exact ha2)) (f1.wk.tr b10.wk) (fun b g y1 y2 y3 => (b11 b g y1 (by rw [eK]; exact y2) y3).trans (by rw [eP])) b12 b13)
      · unfold cR; rw [b6.S 37 (by decide)]; exact hr
      · unfold cI; rw [b6.I 70 (by decide)]; exact hp
      · exact (H1.hx (hdX.fr b10 R1.q.1.ty kA1 rfl (nin6 rfl) (by decide)) (b10.r kA1)).hA b9 (by rw [kA1]; decide)
      · rw [b6.I 75 (by decide)]; exact h75
      · rw [(b10.v kA1 (by decide)).1, (f1.v kA (by decide)).1]; exact i51
      · rw [b6.S 162 (by decide)]; exact s162
      · rw [b6.S 163 (by decide)]; exact s163
      · rw [b6.I 71 (by decide)]; exact e71
      · rw [if_neg z] at pf
        rw [e239, (gt_fr b6 rfl).1, (gt_fr b6 rfl).2, bh z]
        exact pf.fr b10 k39 (by decide)
    apply hP
    unfold C_Rr_hearResponse_s19
    refine ⟨A, rfl, _, gd_to (okr kA 2), ?_⟩
    rw [show s.I (20 * 2 + 11) A = nI (i0 + 20 * n) from i51, show nI (i0 + 20 * k) + (20 : Int32) = nI (i0 + 20 * k + 20) from nI_add _ 20]
    refine ifF (nI_nlt (by omega) (by omega)) ⟨_, gd_to (okr kA 2), ?_⟩
    rw [show s.I (20 * 2 + 4) A = fam (nI f) from i44]
    have lt : nI k < t.S 163 := by rw [s163]; exact nI_lt (by omega) (by omega)
    rcases hf with rfl | rfl
    · refine ifT rfl ⟨o9, ?_⟩
      rw [show nI (i0 + 20 * k) + (12 : Int32) = nI (i0 + 20 * k + 12) from nI_add _ 12, ← eg1, ← eg2]
      refine c_hop hR hM hr hp hH' h75 (by omega) fun s1 eK eP f1 pf => ?_
      rw [eg1, eg2]
      refine ent s1 eK eP f1 ?_ ?_
      · unfold M_takeAll_s29
        rw [if_pos lt, if_neg (show ¬ nI 0 = 1 by decide), ea]
      · rw [if_pos rfl, hla rfl]
        exact pf
    · have vb := vc_b L (i0 + 20 * k + 19)
      have rd := hI.rd (j := i0 + 20 * k + 19) (hN.n 149 700) hB (by omega)
      have eM0 : M_takeAll_s29 t (nI (4 * r + p)) (nI 1) h l (nI r) lk (nI (2 * (4 * r + p) + 1)) ha la (nI k) = if nI (vc L (i0 + 20 * k + 19)) = 255 then some (.inl (hiF (fun j => L.getD j 0) (i0 + 20 * k) 1, loF (fun j => L.getD j 0) (i0 + 20 * k) 1, nI (k + 1), t)) else M_takeAll_b98 t (nI (4 * r + p)) (nI 1) h l (nI r) lk (nI (2 * (4 * r + p) + 1)) ha la (nI k) (nI (i0 + 20 * k)) := by
        have eH : M_highOf t 149 (nI (i0 + 20 * k)) 1 = some (hiF (t.I 149) (i0 + 20 * k) 1) := m_high (f := 1) (N := 700) (hN.n 149 700) (by omega) (by decide) (Or.inr rfl)
        have eL : M_lowOf t 149 (nI (i0 + 20 * k)) 1 = some (loF (t.I 149) (i0 + 20 * k) 1) := m_low (f := 1) (N := 700) (hN.n 149 700) (by omega) (by decide) (Or.inr rfl)
        obtain ⟨x1, x2⟩ := hi_e (g' := fun j => L.getD j 0) (f := 1) (i := i0 + 20 * k) (fun j hj => hI.2 j hj) (by omega)
        unfold M_takeAll_s29 M_takeAll_b499
        rw [if_pos lt, if_pos (show nI 1 = 1 from rfl), ea, show (19 : Int32) = nI 19 from rfl, nI_add, rd, eH, eL, x1, x2, nI_1]
        simp only [Option.bind_some]
      have em : meF (fun j => L.getD j 0) 1 (i0 + 20 * k) = Int32.toInt64 (nI (vc L (i0 + 20 * k + 19))) := by
        unfold meF
        rw [if_neg (by decide)]
        exact congrArg Int32.toInt64 (hB _)
      refine ifF (by decide) ⟨okr kA 2, w_met kA (Or.inr rfl) i44 p40.1 p40.2 hb he ?_⟩
      rw [em]
      by_cases c : nI (vc L (i0 + 20 * k + 19)) = 255
      · rw [if_pos c] at eM0
        refine ifT ((L_255 vb).mpr c) ⟨o9, ?_⟩
        rw [← eg1, ← eg2]
        refine c_hop hR hM hr hp hH' h75 (by omega) fun s1 eK eP f1 pf => ?_
        rw [eg1, eg2]
        unfold C_Rr_hearResponse_b80
        rw [nx]
        have R1 : RR G H sa x s1 t := rr_fr hR hM (hq.1.v eK eP f1 rfl rfl rfl) f1 (mfr.rf (W := [])) rfl rfl rfl rfl rfl rfl rfl
        have H1 : HE H s1 A L 1 h l po ho := hH'.hx (hdX.fr f1 hT kA rfl (nin6 rfl) (by decide)) (by rw [eK]; exact kA)
        have c13 : potS s1 G H r = potS s G H r := by unfold potS cpT; rw [eP, eK]
        refine ih (k + 1) G H s1 t _ _ kc ks (by omega) eg1 eg2 ⟨⟨R1, hM, hAg, hE⟩, ⟨hr, hp⟩, H1, hI, h75, ?_, ⟨s162, s163, e71⟩, fun z => absurd z (by decide), fun _ => pf, hkc, by rw [c13]; exact hks⟩ (kk.tr (lp_l (f := fun y : Int64 × Int64 × Int32 × moS => M_takeAll_s29 y.2.2.2 (nI (4 * r + p)) (nI 1) h l (nI r) lk (nI (2 * (4 * r + p) + 1)) y.1 y.2.1 y.2.2.1) eM0) k26 mfr.rf (fun _ _ _ => rfl) (fun _ _ => rfl) hA.rf f1.wk (fun b g _ _ _ => by rw [eP]) (Nat.le_refl _) (by rw [c13]; exact Nat.le_refl _))
        rw [(f1.v kA (by decide)).1]
        exact i51
      · rw [if_neg c] at eM0
        refine ifF (fun z => c ((L_255 vb).mp z)) (ent s rfl rfl fr.rf eM0 ?_)
        rw [if_neg (show ¬ (1 : Nat) = 0 by decide)]
        exact hop (by decide)
theorem c_hear {i0 n : Nat} (hR : RR G H sa x s t) (hM : MV t) (hAg : AGs t) (hE : EX Os t) (hO : ∀ r, (Os r).length ≤ 760) (hr : r < cR t) (hp : p < cI t r) (hH : HE H s A L f h l po ho) (hI : IN t L) (hB : ∀ j, L.getD j 0 = nI (vc L j)) (h75 : t.I 75 (2 * (4 * r + p) + f) ≠ 0) (i50 : s.I 50 A = nI i0) (i51 : s.I 51 A = nI (i0 + 20 * n)) (s162 : t.S 162 = nI i0) (s163 : t.S 163 = nI n) (hn : i0 + 20 * n ≤ L.length) (hkc : potC G r ≤ kc) (hks : potS s G H r ≤ ks) (kk : HrK G H sa x Os s t r (M_takeAll t (nI (4 * r + p)) (nI f) h l) kc ks Q) : C_Rr_hearResponse sa (G 1 r) (some A) (some (G 2 (4 * r + p))) s kc ks Q := by
  have hH' := hH
  obtain ⟨kA, hb, hPF, ⟨i44, i45, i46⟩, hf⟩ := hH
  have hl6 : L.length ≤ 600 := by obtain ⟨-, -, d, -, -, -, e, -⟩ := hb; exact e
  have h6 := hM.nR
  have h4 := hM.nIf hr
  have hq := hR.q.1
  have hT := hq.ty
  have hN := hM.1.1
  have k26 := (hq.rt hr).1.1
  obtain ⟨⟨o9, p180, o11, -⟩, -, -⟩ := px_of hR hM hr hp
  have kx := hq.1.1
  have p239 := hT.p kx 239 39
  have p41 := hT.p kA 41 12
  have o5 := okr p239.2 5
  obtain ⟨g1, g2, g3, g4⟩ := id hPF
  have e0 : M_takeAll t (nI (4 * r + p)) (nI f) h l = lp (fun y : Int64 × Int64 × Int32 × moS => M_takeAll_s29 y.2.2.2 (nI (4 * r + p)) (nI f) h l (nI r) (t.I 71 (4 * r + p)) (nI (2 * (4 * r + p) + f)) y.1 y.2.1 y.2.2.1) (0, 0, nI 0, t) := by
    unfold M_takeAll M_takeAll_b29
    have e4 : nI (4 * r + p) / 4 = nI r := by
      have : nI (4 * r + p) / 4 = nI ((4 * r + p) / 4) := pk_div (d := 4) (by omega) (by decide) (by decide)
      rw [this]
      congr 1
      omega
    rw [rdI_n (n := 24) (hN.n 71 24) (by omega) (by decide), e4, show (2 : Int32) = nI 2 from rfl, pk_mul, nI_add]
    rfl
  unfold C_Rr_hearResponse
  refine ⟨_, gd_to o9, _, p180, _, gd_to o11, A, rfl, _, gd_to (okr kA 2), _, p239.1, o5, ?_⟩
  rw [show s.P (20 * 2 + 1) A = some (H 41 A) from p41.1]
  refine w_copy o5 (okr p41.2 5) ?_
  rw [g1, g2, g3, g4]
  have fc : fr [39] [] [] s (cSpf s (H 239 x) (fam (nI f)) h l (if f = 0 then 32 else 128)) := fr.spf (by rw [p239.2]; decide)
  have vc' : PF (cSpf s (H 239 x) (fam (nI f)) h l (if f = 0 then 32 else 128)) (H 239 x) (fam (nI f)) h l (if f = 0 then 32 else 128) := cSpf_v
  have eK : (cSpf s (H 239 x) (fam (nI f)) h l (if f = 0 then 32 else 128)).K = s.K := rfl
  have eP : (cSpf s (H 239 x) (fam (nI f)) h l (if f = 0 then 32 else 128)).P = s.P := rfl
  generalize cSpf s (H 239 x) (fam (nI f)) h l (if f = 0 then 32 else 128) = sc at fc vc' eK eP ⊢
  have Rc : RR G H sa x sc t := rr_fr hR hM (hq.1.v eK eP fc rfl rfl rfl) fc (mfr.rf (W := [])) rfl rfl rfl rfl rfl rfl rfl
  have Hc : HE H sc A L f h l po ho := hH'.hx (hdX.fr fc hT kA rfl (nin6 rfl) (by decide)) (by rw [eK]; exact kA)
  have j50 : sc.I 50 A = nI i0 := by rw [(fc.v kA (by decide)).1]; exact i50
  have j51 : sc.I 51 A = nI (i0 + 20 * n) := by rw [(fc.v kA (by decide)).1]; exact i51
  have kc0 : HrK G H sa x Os sc t r (M_takeAll t (nI (4 * r + p)) (nI f) h l) kc ks Q := kk.tr rfl k26 mfr.rf (fun _ _ _ => rfl) (fun _ _ => rfl) hA.rf fc.wk (fun b g _ _ _ => by rw [eP]) (Nat.le_refl _) (by unfold potS cpT; rw [eP, eK]; exact Nat.le_refl _)
  have hks0 : potS sc G H r ≤ ks := by unfold potS cpT at hks ⊢; rw [eP, eK]; exact hks
  rw [e0] at kc0
  have okA : okO sc 2 A := okr (show (sc.K A).1 = 6 by rw [eK]; exact kA) 2
  refine ⟨_, gd_to okA, ?_⟩
  rw [show sc.I (20 * 2 + 10) A = nI i0 from j50]
  have hop0 : PF sc (H 239 x) (fam (nI f)) (gtH t (2 * (4 * r + p) + f) 0 0 h) (gtL t (2 * (4 * r + p) + f) 0 0 l) (if f = 0 then 32 else 128) := by
    have c : hpN t (2 * (4 * r + p) + f) 0 0 := Or.inl ⟨rfl, rfl⟩
    rw [gtH_p c, gtL_p c]
    exact vc'
  unfold C_Rr_hearResponse_b19
  intro P hP
  exact hr_loop hP hB hO hn n 0 G H sc t 0 0 kc ks (by omega) rfl rfl ⟨⟨Rc, hM, hAg, hE⟩, ⟨hr, hp⟩, Hc, hI, h75, j51, ⟨s162, s163, rfl⟩, fun _ => rfl, fun _ => hop0, hkc, hks0⟩ kc0
end Hz
