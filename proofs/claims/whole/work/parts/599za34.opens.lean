/-! Whether the keys of a datagram are right: both sides. -/
abbrev Wop : List Nat := [101, 102, 103, 104, 157, 158, 159, 160, 162, 163]
abbrev Rjd : List Nat := [4, 5, 6, 8, 113, 115, 119, 120, 127]
abbrev Pjd : List (Nat × Nat) := [(28, 4), (28, 5), (96, 8), (97, 8)]
/-- what may still be spent on an interface's keys and sources -/
def jdC (s : cS) (G H : Nat → Nat → Nat) (q : Nat) : Nat := wkC s (H 86 (G 2 q)) + soC s (G 2 q)
def jdS (s : cS) (G H : Nat → Nat → Nat) (q : Nat) : Nat := 792 * wkC s (H 86 (G 2 q)) + soS s (G 2 q)
/-- how it goes on behind a judgement: the keys are right, or they are not -/
def OpK (G H : Nat → Nat → Nat) (sa : Nat → Nat) (x : Nat) (E : List (Int32 × Int64)) (s : cS) (t : moS) (q A kc ks : Nat) (L : List Int32) (o : Option (Int32 × moS)) (Q : Int32 → cS → Nat → Nat → Prop) : Prop := ∀ v s' t' kc' ks', o = some (v, t') → (v = 0 ∨ v = 1) → RR G H sa x s' t' → MV t' → SRC E t' → mfr Wop t t' → fr Rjd Pjd [] s s' → hdX H A s s' → (v = 1 → ∃ i n, (s'.I 50 A = nI i ∧ s'.I 51 A = nI (i + 20 * n)) ∧ (t'.S 162 = nI i ∧ t'.S 163 = nI n) ∧ (i = 4 ∨ i = 24) ∧ i + 20 * n ≤ L.length ∧ ((mcV t q).1 = 2 → i = 24 ∧ i + 20 * n + 20 ≤ L.length)) → (∀ a, okO s 1 a → a ≠ H 86 (G 2 q) → s'.P 28 a = s.P 28 a) → (∀ b, (s.K b).1 = 8 → b ≠ G 2 q → cpZ s' b = cpZ s b) → kc + jdC s' G H q ≤ kc' + jdC s G H q → ks + jdS s' G H q ≤ ks' + jdS s G H q → Q v s' kc' ks'
section Op
variable {G H : Nat → Nat → Nat} {sa : Nat → Nat} {x r p A kc ks m : Nat} {s : cS} {t : moS} {h l : Int64} {po ho : Int32} {L : List Int32} {E : List (Int32 × Int64)} {Q : Int32 → cS → Nat → Nat → Prop} {V : chV} {c b : Nat}
theorem w_pw (hg : RGl G H sa x s) (hc : okO s 1 c) (hC : CC H s c V) (hV : VV V) (hV1 : V.1 = 1) (kb : (s.K b).1 = 3) (hb : BL s b 129 L 600) (h24 : 24 ≤ L.length) (k1 : pwP L V.2.1 → Q 1 s kc ks) (k0 : ¬ pwP L V.2.1 → Q 0 s kc ks) : C_Ch_isPasswordEntry sa c (some b) s kc ks Q := by
  have ob := okr kb 0
  obtain ⟨⟨p1, q1⟩, -⟩ := chK hg hc
  have e21 := hC.2.2.2 hV1
  unfold C_Ch_isPasswordEntry C_Ch_isPasswordEntry_b2
  intro P hP
  have loop : ∀ m j, j + m = 16 → (∀ i, i < j → nI (vc L (8 + i)) = V.2.1.getD i 0) → P (nI j) s kc ks := by
    intro m
    induction m with
    | zero =>
      intro j hj ok
      have hj : j = 16 := by omega
      subst hj
      apply hP
      unfold C_Ch_isPasswordEntry_s2
      refine ifF (show ¬ nI 16 < 16 by decide) ⟨b, rfl, ob, w_numAt (a := 4) (n := 4) hb (by decide) ?_⟩
      by_cases z : is4 L 4 255 255 0 2
      · exact ifT ((nb_is hb (by omega) (by decide) (by decide) (by decide) (by decide)).mpr z) (k1 ⟨z, ok⟩)
      · exact ifF (fun y => z ((nb_is hb (by omega) (by decide) (by decide) (by decide) (by decide)).mp y)) (k0 fun y => z y.1)
    | succ m ih =>
      intro j hj ok
      apply hP
      unfold C_Ch_isPasswordEntry_s2
      rw [show (8 : Int32) + nI j = nI (8 + j) from nI_add 8 j, nI_1]
      refine ifT (show nI j < 16 from nI_lt (b := 16) (by omega) (by decide)) ⟨b, rfl, ob, w_at (i := 8 + j) hb (by omega) ⟨_, gd_to hc, _, p1, _, rd_E q1 (by decide) (show j < 16 by omega) (by decide) (e21 j (by omega)), ?_⟩⟩
      by_cases y : nI (vc L (8 + j)) = V.2.1.getD j 0
      · refine ifT y (ih (j + 1) (by omega) fun i' hi' => ?_)
        by_cases u : i' = j
        · rw [u]; exact y
        · exact ok i' (by omega)
      · exact ifF y (k0 fun z => y (z.2 j (by omega)))
  exact loop 16 0 rfl (fun i' hi' => absurd hi' (by omega))
theorem hdX.fr {s' : cS} {Rv Rq : List Nat} {Gp : List (Nat × Nat)} (f : fr Rv Gp Rq s s') (hT : TY cNo H s) (kA : (s.K A).1 = 6) (d1 : dj [3, 6, 12, 13, 129] Rv) (d2 : ∀ g, (g, 6) ∉ Gp) (d3 : (0, 3) ∉ Gp) : hdX H A s s' := hdX.of (hdF.fr f hT kA d1 d2 d3)
theorem nin6 {l : List (Nat × Nat)} (h : (l.all fun e => e.2 != 6) = true) : ∀ g, (g, 6) ∉ l := fun g z => by
  have := List.all_eq_true.mp h _ z
  exact absurd this (show ¬ ((6 : Nat) != 6) = true by decide)
/-- a chain that is right -/
theorem c_opKey {i z : Nat} {v : kV} {kc1 ks1 : Nat} {s1 : cS} (hR : RR G H sa x s t) (hM : MV t) (hS : SRC E t) (hE : E.length ≤ 600) (hr : r < cR t) (hp : p < cI t r) (hH : HE H s A L 0 h l po ho) (hI : IN t L) (hB : ∀ j, L.getD j 0 = nI (vc L j)) (hl6 : L.length ≤ 600) (hm : L.length = 4 + 20 * m) (hin : sIn E t (t.I 71 (4 * r + p)) h) (hkc : jdC s G H (4 * r + p) ≤ kc) (hks : jdS s G H (4 * r + p) ≤ ks) (hV : mcV t (4 * r + p) = V) (hV2 : V.1 = 2) (hK : kgK V (t.S 1) L i v) (hz : kgB L v z) (ksk : KsK G H sa x (H 86 (G 2 (4 * r + p))) s t kc ks s1 kc1 ks1) (k : OpK G H sa x E s t (4 * r + p) A kc ks L (M_keysAreGood t (nI (4 * r + p)) h) Q) : ob (gP s1 2 1 A) (fun v18 => (ob (some (H 40 A)) (fun b19 => (okO s1 0 b19 ∧ C_By_numberAt sa b19 (12 : Int32) (4 : Int32) s1 kc1 ks1 (fun r20 sr20 cr20 dr20 => (okO sr20 4 (G 2 (4 * r + p)) ∧ C_Po_isFresh sa (G 2 (4 * r + p)) v18 (Int64.toInt32 r20) sr20 cr20 dr20 (fun r21 sr21 cr21 dr21 => (if r21 = 0 then (Q (0 : Int32) sr21 cr21 dr21) else (ob (pI sr21 2 10 A (24 : Int32)) (fun s22 => (ob (gI s22 0 1 b19) (fun v23 => (ob (gP s22 4 6 (G 2 (4 * r + p))) (fun v24 => (ob v24 (fun b25 => (okO s22 1 b25 ∧ C_Ch_endSize sa b25 (nI i) s22 cr21 dr21 (fun r26 sr26 cr26 dr26 => (ob (pI sr26 2 11 A (v23 - r26)) (fun s27 => (Q (1 : Int32) s27 cr26 dr26))))))))))))))))))))) := by
  have h6 := hM.nR
  have hx4 := (hM.r hr).2.2.2.2.2.2.2.2.2.1.n.2.2
  have hp4 : p < 4 := Nat.lt_of_lt_of_le hp hx4
  have hq : 4 * r + p < 24 := by omega
  obtain ⟨-, ⟨Y1, Y2, -⟩, ⟨Z1, Z2, Z3, Z4, Z5, Z6⟩, -⟩ := px_of hR hM hr hp
  rw [hV] at Z4 Z5 Z6
  obtain ⟨kA, hb, hPF, hIs, -⟩ := hH
  have hT := hR.q.1.ty
  obtain ⟨kR1, kf1, kp1, kk1, kk2⟩ := ksk
  have hT1 := kR1.q.1.ty
  have kA1 : (s1.K A).1 = 6 := kf1.r kA
  have X1 : hdX H A s s1 := hdX.fr kf1 hT kA rfl (nin6 rfl) (by decide)
  obtain ⟨p40, kb⟩ := hT1.p kA1 40 3
  obtain ⟨p41, k12⟩ := hT1.p kA1 41 12
  have hb1 := X1.2.2.2.2 L hb
  have ob1 := okr kb 0
  have h13 := hz.1.2.2.1
  have h24 := hz.1.2.2.2.1
  obtain ⟨y1, y2⟩ := enN_b v.2.1
  have hN := hM.1.1
  obtain ⟨u, m1, e162, e163, em⟩ := (m_keys2 (h := h) hI hB (by omega) hl6 hN hq Z6 Z4 hV2).1 i v z hK hz
  have hMu : MV u := hM.fr m1 rfl (hM.1.fr m1 rfl)
  have hRu : RR G H sa x s1 u := rr_fr kR1 hM kR1.q.1.1 (fr.rf (Rv := []) (Gp := []) (Rq := [])) m1 rfl rfl rfl rfl rfl rfl rfl
  have hSu : SRC E u := hS.fr m1 rfl
  have eR : cR u = cR t := by unfold cR; rw [m1.S 37 (by decide)]
  have eI : cI u r = cI t r := by unfold cI; rw [m1.I 70 (by decide)]
  have Y21 : (s1.K (G 2 (4 * r + p))).1 = 8 := kf1.r Y2
  have z96 : cpZ s1 (G 2 (4 * r + p)) = cpZ s (G 2 (4 * r + p)) := cpZ_fr hR.q.1.1 kf1 Y2 (by decide)
  have sC : soC s1 (G 2 (4 * r + p)) = soC s (G 2 (4 * r + p)) := by unfold soC; rw [z96]
  have sS : soS s1 (G 2 (4 * r + p)) = soS s (G 2 (4 * r + p)) := by unfold soS; rw [z96]
  unfold jdC at hkc
  unfold jdS at hks
  have hn4 : N4 (vc L 12) (vc L 13) (vc L 14) (vc L 15) < 2 ^ 32 := by
    have := vc_b L 12
    have := vc_b L 13
    have := vc_b L 14
    have := vc_b L 15
    rw [n4_e]
    omega
  refine ⟨_, gd_to (okr kA1 2), H 40 A, rfl, ob1, w_numAt (a := 12) (n := 4) hb1 (by decide) ?_⟩
  rw [show s1.P (20 * 2 + 1) A = some (H 41 A) from p41, show nbF (fun j => L.getD j 0) 12 4 0 = Int64.ofNat (N4 (vc L 12) (vc L 13) (vc L 14) (vc L 15)) from nb_vc hb (by omega), L_toI]
  refine ⟨okr Y21 4, c_frs (h := h) hRu hMu hSu hE (by rw [eR]; exact hr) (by rw [eI]; exact hp) (okr k12 5) ?_ ?_ hn4 (by rw [sC]; omega) (by rw [sS]; omega) ?_⟩
  · rw [X1.2.2.1.2 101]
    exact hPF.2.1
  · rw [m1.I 71 (by decide)]
    exact hin.fr m1 rfl
  intro w s2 t2 kc2 ks2 e2 hw hR2 hM2 hS2 m2 f2 z2 c2 d2
  have eM := em w t2 e2 hw
  have kA2 : (s2.K A).1 = 6 := f2.r kA1
  have X2 : hdX H A s s2 := X1.tr (hdX.fr f2 hT1 kA1 rfl (nin6 rfl) (by decide))
  have mt2 : mfr Wop t t2 := (m1.wk (by decide)).tr (m2.wk (by decide))
  have ft2 : fr Rjd Pjd [] s s2 := (kf1.wk (by decide) (by decide) (by decide)).tr (f2.wk (by decide) (by decide) (by decide))
  have e28 : ∀ a, okO s 1 a → s2.P 28 a = s1.P 28 a := fun a ha => by
    have ha1 : (s1.K a).1 ≠ 0 := by rw [(kf1 a ha.n0).1]; exact ha.n0
    exact (f2 a ha1).2.2.1 28 (by
      intro y
      rcases List.mem_cons.mp y with y | y
      · exact absurd (congrArg Prod.fst y) (by decide : (28 : Nat) ≠ 96)
      · exact absurd (congrArg Prod.fst (List.mem_singleton.mp y)) (by decide : (28 : Nat) ≠ 97))
  have p28 : ∀ a, okO s 1 a → a ≠ H 86 (G 2 (4 * r + p)) → s2.P 28 a = s.P 28 a := fun a ha hne => (e28 a ha).trans (kp1 a ha hne)
  have wk2 : wkC s2 (H 86 (G 2 (4 * r + p))) = wkC s1 (H 86 (G 2 (4 * r + p))) := by unfold wkC; rw [e28 _ Z3]
  have cz2 : ∀ b, (s.K b).1 = 8 → b ≠ G 2 (4 * r + p) → cpZ s2 b = cpZ s b := fun b hb hne => (z2 b (kf1.r hb) hne).trans (cpZ_fr hR.q.1.1 kf1 hb (by decide))
  have co1 : kc + jdC s2 G H (4 * r + p) ≤ kc2 + jdC s G H (4 * r + p) := by unfold jdC; rw [wk2]; omega
  have co2 : ks + jdS s2 G H (4 * r + p) ≤ ks2 + jdS s G H (4 * r + p) := by unfold jdS; rw [wk2]; omega
  rcases hw with rfl | rfl
  · exact ifT rfl (k 0 s2 t2 kc2 ks2 eM (Or.inl rfl) hR2 hM2 hS2 mt2 ft2 X2 (fun y => absurd y (by decide)) p28 cz2 co1 co2)
  · obtain ⟨R3, f3, X3⟩ := rr_50 (v := 24) hR2 hM2 kA2 (Or.inl rfl)
    have kA3 : ((cSI s2 50 A 24).K A).1 = 6 := kA2
    obtain ⟨R4, f4, X4⟩ := rr_50 (v := nI z) R3 hM2 kA3 (Or.inr rfl)
    have eR2 : cR t2 = cR t := by unfold cR; rw [mt2.S 37 (by decide)]
    have eI2 : cI t2 r = cI t r := by unfold cI; rw [mt2.I 70 (by decide)]
    obtain ⟨-, ⟨y1', y2', -⟩, ⟨w1, w2, w3, w4, w5, w6⟩, -⟩ := px_of R3 hM2 (r := r) (p := p) (by rw [eR2]; exact hr) (by rw [eI2]; exact hp)
    have eV : mcV t2 (4 * r + p) = V := by
      rw [← hV]
      unfold mcV
      rw [mt2.I 79 (by decide), mt2.I 80 (by decide), mt2.I 81 (by decide), mt2.I 82 (by decide), mt2.I 83 (by decide), mt2.I 84 (by decide), mt2.I 85 (by decide), mt2.I 86 (by decide), mt2.I 87 (by decide), mt2.I 88 (by decide)]
    rw [eV] at w4 w5
    have hb3 : BL (cSI s2 50 A 24) (H 40 A) 129 L 600 := (X3 A kA2).2.2.2.2 L (X2.2.2.2.2 L hb)
    have i1 : (cSI s2 50 A 24).I 1 (H 40 A) = nI L.length := by obtain ⟨-, -, d, -, -, e, -⟩ := hb3; exact e
    have o3 : okO (cSI s2 50 A 24) 0 (H 40 A) := hb3.1
    refine ifF (by decide) ⟨_, gd_to (okr kA2 2), _, gd_to o3, _, gd_to y1', _, w1, w3, c_ends R3.q.1.1 w3 w5 w4.2.1 hK.1 ⟨_, gd_to (okr kA3 2), ?_⟩⟩
    rw [show (cSI s2 (20 * 2 + 10) A 24).I (20 * 0 + 1) (H 40 A) = nI L.length from i1, show nI L.length - nI (enN v.2.1) = nI z by rw [pk_sub (by omega)]; congr 1; omega]
    refine k 1 (cSI (cSI s2 50 A 24) 51 A (nI z)) t2 kc2 ks2 eM (Or.inr rfl) R4 hM2 hS2 mt2 (ft2.tr ((f3.tr f4).wk (by decide) (by decide) (by decide))) (X2.tr ((X3 A kA2).tr (X4 A kA3))) (fun _ => ⟨24, (z - 24) / 20, ⟨?_, ?_⟩, ⟨?_, ?_⟩, Or.inr rfl, by omega, fun _ => ⟨rfl, by have := (sz_n v.2.1).2.2; omega⟩⟩) p28 cz2 co1 co2
    · rw [cSI_g (by decide), cSI_s]
      rfl
    · rw [cSI_s]
      have : enN v.2.1 = 20 ∨ enN v.2.1 = 40 := by unfold enN; split <;> omega
      congr 1
      omega
    · rw [m2.S 162 (by decide), e162]
      rfl
    · rw [m2.S 163 (by decide), e163]
theorem c_opens (hR : RR G H sa x s t) (hM : MV t) (hS : SRC E t) (hE : E.length ≤ 600) (hr : r < cR t) (hp : p < cI t r) (hH : HE H s A L 0 h l po ho) (hI : IN t L) (hB : ∀ j, L.getD j 0 = nI (vc L j)) (hl6 : L.length ≤ 600) (hm : L.length = 4 + 20 * m) (h1m : 1 ≤ m) (i50 : s.I 50 A = 4) (i51 : s.I 51 A = nI L.length) (hin : sIn E t (t.I 71 (4 * r + p)) h) (hkc : jdC s G H (4 * r + p) ≤ kc) (hks : jdS s G H (4 * r + p) ≤ ks) (k : OpK G H sa x E s t (4 * r + p) A kc ks L (M_keysAreGood t (nI (4 * r + p)) h) Q) : C_Po_opens sa (G 2 (4 * r + p)) (some A) (t.S 1) s kc ks Q := by
  have h6 := hM.nR
  have hx4 := (hM.r hr).2.2.2.2.2.2.2.2.2.1.n.2.2
  have hp4 : p < 4 := Nat.lt_of_lt_of_le hp hx4
  have hq : 4 * r + p < 24 := by omega
  obtain ⟨kA, hb, hPF, hIs, -⟩ := hH
  have hT := hR.q.1.ty
  have oA := okr kA 2
  obtain ⟨p40, kb⟩ := hT.p kA 40 3
  obtain ⟨p41, ks1⟩ := hT.p kA 41 12
  have ob := okr kb 0
  obtain ⟨-, ⟨Y1, Y2, -⟩, ⟨Z1, Z2, Z3, Z4, Z5, Z6⟩, -⟩ := px_of hR hM hr hp
  generalize hVd : mcV t (4 * r + p) = V at *
  have hN := hM.1.1
  have i22 : s.I 22 (H 86 (G 2 (4 * r + p))) = nI V.2.2.length := Z5.2.1
  have i20 : s.I 20 (H 86 (G 2 (4 * r + p))) = (if V.1 = 1 then 1 else 0) := Z5.1
  have hV2 := Z4.1
  have h4 := Z4.2.1
  have kA1 : (s.K (H 86 (G 2 (4 * r + p)))).1 = 4 := (hT.p Y2 86 4).2
  unfold C_Po_opens
  refine ⟨A, rfl, _, gd_to oA, _, gd_to Y1, _, Z1, _, gd_to Z3, ?_⟩
  rw [show s.I (20 * 1 + 2) (H 86 (G 2 (4 * r + p))) = nI V.2.2.length from i22, show s.P (20 * 2 + 0) A = some (H 40 A) from p40]
  by_cases cV : 1 ≤ V.2.2.length
  rotate_left
  · -- no chain
    have hV : V.1 ≠ 2 := fun z => cV (Z4.2.2.1.mp z)
    refine ifF (show ¬ (0 : Int32) < nI V.2.2.length by rw [show V.2.2.length = 0 by omega]; decide) ⟨_, gd_to Y1, _, Z1, _, gd_to Z3, ?_⟩
    rw [show s.I (20 * 1 + 0) (H 86 (G 2 (4 * r + p))) = (if V.1 = 1 then 1 else 0) from i20]
    by_cases c1 : V.1 = 1
    rotate_left
    · -- open
      have c0 : V.1 = 0 := by omega
      rw [if_neg c1]
      have em := m_keys0 (h := h) hI hB (by omega) hl6 hN hq Z6 c0
      have e5 : nbF (fun j => L.getD j 0) 4 2 0 = 65535 ↔ (vc L 4 = 255 ∧ vc L 5 = 255) := by
        have n2 : nbF (fun j => L.getD j 0) 4 2 0 = Int64.ofNat (vc L 4 * 256 + vc L 5) := nb_v2 hb (by omega)
        rw [n2]
        have b4 := vc_b L 4
        have b5 := vc_b L 5
        constructor
        · intro e
          have := L_inj (B := 65535) (by omega) (by decide) e
          omega
        · rintro ⟨a1, a2⟩
          rw [a1, a2]
          rfl
      have hT' : MV (kaT t L.length) ∧ RR G H sa x s (kaT t L.length) := ⟨hM.fr ka_fr rfl (hM.1.fr ka_fr rfl), rr_fr hR hM hR.q.1.1 (fr.rf (Rv := []) (Gp := []) (Rq := [])) ka_fr rfl rfl rfl rfl rfl rfl rfl⟩
      have fin : ∀ v : Int32, M_keysAreGood t (nI (4 * r + p)) h = some (v, kaT t L.length) → (v = 0 ∨ v = 1) → Q v s kc ks := fun v e hv => by
        refine k v s (kaT t L.length) kc ks e hv hT'.2 hT'.1 (hS.fr ka_fr rfl) (ka_fr.wk (by decide)) fr.rf hdX.rf (fun _ => ⟨4, m, ⟨i50, by rw [i51, hm]⟩, ⟨?_, ?_⟩, Or.inl rfl, by omega, fun y => absurd (by rw [hVd] at y; exact y) hV⟩) (fun _ _ _ => rfl) (fun _ _ _ => rfl) (Nat.le_refl _) (Nat.le_refl _)
        · show (moSS (moSS t 162 4) 163 _).S 162 = nI 4
          rw [moSS_n (by decide), moSS_s]
          rfl
        · show (moSS (moSS t 162 4) 163 (nI ((L.length - 4) / 20))).S 163 = nI m
          rw [moSS_s, show (L.length - 4) / 20 = m by omega]
      refine ifT rfl ⟨H 40 A, rfl, ob, w_numAt (a := 4) (n := 2) hb (by decide) ?_⟩
      by_cases c5 : vc L 4 = 255 ∧ vc L 5 = 255
      · rw [if_pos c5] at em
        exact ifT (e5.mpr c5) (fin 0 em (Or.inl rfl))
      · rw [if_neg c5] at em
        exact ifF (fun z => c5 (e5.mp z)) (fin 1 em (Or.inr rfl))
    · -- a password
      rw [if_pos c1]
      obtain ⟨R1, f1, X1⟩ := rr_50 (v := 24) hR hM kA (Or.inl rfl)
      have em := m_keys1 (h := h) hI hB (by omega) hl6 hN hq Z6 c1 (Z4.2.2.2.1 c1).2.1
      have hT' : MV (kbT t L.length) ∧ RR G H sa x (cSI s 50 A 24) (kbT t L.length) := ⟨hM.fr kb_fr rfl (hM.1.fr kb_fr rfl), rr_fr R1 hM R1.q.1.1 (fr.rf (Rv := []) (Gp := []) (Rq := [])) kb_fr rfl rfl rfl rfl rfl rfl rfl⟩
      have hb1 : BL (cSI s 50 A 24) (H 40 A) 129 L 600 := (X1 A kA).2.2.2.2 L hb
      have C1 : CC H (cSI s 50 A 24) (H 86 (G 2 (4 * r + p))) V := by
        have e22 : ∀ g, (cSI s 50 A 24).I g (H 86 (G 2 (4 * r + p))) = s.I g (H 86 (G 2 (4 * r + p))) := fun g => (f1.v kA1 (by decide)).1 g
        unfold CC
        rw [e22, e22]
        exact Z5
      have fin : ∀ v : Int32, M_keysAreGood t (nI (4 * r + p)) h = some (v, kbT t L.length) → (v = 0 ∨ v = 1) → Q v (cSI s 50 A 24) kc ks := fun v e hv => by
        refine k v (cSI s 50 A 24) (kbT t L.length) kc ks e hv hT'.2 hT'.1 (hS.fr kb_fr rfl) (kb_fr.wk (by decide)) (f1.wk (by decide) (by decide) (by decide)) (X1 A kA) (fun _ => ⟨24, m - 1, ⟨cSI_s, ?_⟩, ⟨?_, ?_⟩, Or.inr rfl, by omega, fun y => absurd (by rw [hVd] at y; exact y) hV⟩) (fun _ _ _ => rfl) (fun _ _ _ => rfl) (Nat.le_refl _) (Nat.le_refl _)
        · rw [cSI_g (by decide), i51]
          congr 1
          omega
        · show (moSS (moSS (kaT t L.length) 162 24) 163 _).S 162 = nI 24
          rw [moSS_n (by decide), moSS_s]
          rfl
        · show (moSS (moSS (kaT t L.length) 162 24) 163 (nI ((L.length - 4) / 20 - 1))).S 163 = nI (m - 1)
          rw [moSS_s, show (L.length - 4) / 20 = m by omega]
      refine ifF (by decide) ⟨_, gd_to oA, _, gd_to (show okO (cSI s 50 A 24) 4 _ from Y1), _, Z1, (show okO (cSI s 50 A 24) 1 _ from Z3), ?_⟩
      refine w_pw (s := cSI s 50 A 24) R1.q.1.1 Z3 C1 Z4 c1 kb hb1 (by omega) (fun y => ⟨Or.inr rfl, fin 1 (em.1 y) (Or.inr rfl)⟩) (fun y => ⟨Or.inl rfl, fin 0 (em.2 y) (Or.inl rfl)⟩)
  · have hV : V.1 = 2 := Z4.2.2.1.mpr cV
    have hk1 : wkC s (H 86 (G 2 (4 * r + p))) ≤ kc ∧ 792 * wkC s (H 86 (G 2 (4 * r + p))) ≤ ks := by
      unfold jdC at hkc
      unfold jdS at hks
      omega
    refine ifT (show (0 : Int32) < nI V.2.2.length from nI_lt (a := 0) (by omega) (by omega)) ⟨_, gd_to Y1, _, Z1, Z3, c_keyOf hR hM Z3 Z4 Z5 kb hb (by omega) hk1 (fun i v z s' kc' ks' hK hz ksk => ?_) (fun s' kc' ks' no ksk => ?_)⟩
    · have hi4 : i < 4 := by
        rcases Nat.lt_or_ge i V.2.2.length with z | z
        · omega
        · have := hK.1
          rw [List.getElem?_eq_none z] at this
          cases this
      exact ifF (nI_ne (by omega)) (c_opKey hR hM hS hE hr hp ⟨kA, hb, hPF, hIs, Or.inl rfl⟩ hI hB hl6 hm hin hkc hks hVd hV hK hz ksk k)
    · obtain ⟨u', mu, eu⟩ := (m_keys2 (h := h) hI hB (by omega) hl6 hN hq Z6 Z4 hV).2 no
      obtain ⟨kR, kf, kp, kk1, kk2⟩ := ksk
      have z96 : ∀ b, (s.K b).1 = 8 → cpZ s' b = cpZ s b := fun b hb => cpZ_fr hR.q.1.1 kf hb (by decide)
      refine ifT rfl (k 0 s' u' kc' ks' eu (Or.inl rfl) (rr_fr kR hM kR.q.1.1 (fr.rf (Rv := []) (Gp := []) (Rq := [])) mu rfl rfl rfl rfl rfl rfl rfl) (hM.fr mu rfl (hM.1.fr mu rfl)) (hS.fr mu rfl) (mu.wk (by decide)) (kf.wk (by decide) (by decide) (by decide)) (hdX.fr kf hT kA rfl (nin6 rfl) (by decide)) (fun y => absurd y (by decide)) kp (fun b hb _ => z96 b hb) ?_ ?_)
      · unfold jdC soC
        rw [z96 _ Y2]
        omega
      · unfold jdS soS
        rw [z96 _ Y2]
        omega
end Op
