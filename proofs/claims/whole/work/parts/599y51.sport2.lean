/-! The networks of one interface are settled: the class. -/
section Sq
variable {G H G1 H1 : Nat → Nat → Nat} {sa : Nat → Nat} {x r p kc ks kc1 ks1 : Nat} {s s1 : cS} {t t1 : moS} {K : List Pf}
theorem sp_step (sp : SPI G H sa x s t r K kc ks G1 H1 s1 t1 kc1 ks1) (hM : MV t) (hr : r < cR t) (k26 : (s.K (G 1 r)).1 = 26) (hrun : t.I 39 r ≠ 0) (hp : p < cI t r) {f : Nat} (hf : f < 2) (hPK : t.I 75 (8 * r + (2 * p + f)) ≠ 0 → neP t r (2 * p + f) ∈ K) (hkc : potC G r ≤ kc) (hks : potS s G H r ≤ ks) {Pn : cS → Nat → Nat → Prop} (kk : ∀ G2 H2 s2 t2 kc2 ks2, SPI G H sa x s t r K kc ks G2 H2 s2 t2 kc2 ks2 → SAs t1 r (if t.I 75 (8 * r + (2 * p + f)) = 0 then [] else [neP t r (2 * p + f)]) = some t2 → Pn s2 kc2 ks2) : okO s1 4 (G 2 (4 * r + p)) ∧ C_Po_addressOf sa (G 2 (4 * r + p)) (fam (nI f)) s1 kc1 ks1 (fun r2 sr2 cr2 dr2 => (if r2 = none then Pn sr2 cr2 dr2 else (ob (gP sr2 9 0 (G 1 r)) (fun v3 => (ob v3 (fun b4 => (ob (gP sr2 11 18 b4) (fun v5 => (ob v5 (fun b6 => (okO sr2 5 b6 ∧ C_Pr_copy sa b6 r2 sr2 cr2 dr2 (fun sr7 cr7 dr7 => (ob (gP sr7 9 0 (G 1 r)) (fun v8 => (ob v8 (fun b9 => (ob (gP sr7 11 18 b9) (fun v10 => (ob v10 (fun b11 => (okO sr7 5 b11 ∧ C_Pr_dropBitsBehind sa b11 sr7 cr7 dr7 (fun sr12 cr12 dr12 => (ob (gP sr12 9 0 (G 1 r)) (fun v13 => (ob v13 (fun b14 => (ob (gP sr12 11 18 b14) (fun v15 => (okO sr12 9 (G 1 r) ∧ C_Rr_settle sa (G 1 r) v15 sr12 cr12 dr12 (fun sr16 cr16 dr16 => Pn sr16 cr16 dr16)))))))))))))))))))))))))))))) := by
  obtain ⟨hR1, sq, g1, g2, hA1, f1, p1, b1, b2⟩ := id sp
  have h6 := hM.nR
  have h4 := hM.nIf hr
  have m := sq.2.1.1
  have hM1 := sq.1
  have hr1 := sq.cr hr
  have e1 : G1 1 = G 1 := g1 1 (by decide) (by decide)
  have e2 : G1 2 = G 2 := g1 2 (by decide) (by decide)
  have eI : cI t1 r = cI t r := by unfold cI; rw [m.I 70 (by decide)]
  have hq1 := hR1.q.1
  have hpo := hq1.po hr1 (by rw [eI]; exact hp)
  have k8 := hpo.1.1
  rw [e2] at k8
  have k26' := (hq1.rt hr1).1.1
  have h180 := hq1.ty.p k26' 180 30
  have e180 : s1.P 180 (G1 1 r) = some x := by rw [h180.1, (hq1.rt hr1).1.2.2]
  have h238 := hq1.ty.p hq1.1.1 238 18
  rw [e1] at k26' e180
  have ix : 2 * (4 * r + p) + f = 8 * r + (2 * p + f) := by omega
  have rad : RAd G1 s1 t1 (4 * r + p) f := by
    rcases Nat.lt_or_ge f 1 with z | z
    · have : f = 0 := by omega
      subst this; exact hpo.2.1
    · have : f = 1 := by omega
      subst this; exact hpo.2.2.1
  unfold RAd at rad
  rw [e2, ix, m.I 75 (by decide), m.J 76 (by decide), m.J 77 (by decide), m.I 78 (by decide)] at rad
  have o4 := okr k8 4
  refine ⟨o4, ?_⟩
  have tail : ∀ v, v = s1.P (81 + f) (G 2 (4 * r + p)) → (if v = none then Pn s1 kc1 ks1 else (ob (gP s1 9 0 (G 1 r)) (fun v3 => (ob v3 (fun b4 => (ob (gP s1 11 18 b4) (fun v5 => (ob v5 (fun b6 => (okO s1 5 b6 ∧ C_Pr_copy sa b6 v s1 kc1 ks1 (fun sr7 cr7 dr7 => (ob (gP sr7 9 0 (G 1 r)) (fun v8 => (ob v8 (fun b9 => (ob (gP sr7 11 18 b9) (fun v10 => (ob v10 (fun b11 => (okO sr7 5 b11 ∧ C_Pr_dropBitsBehind sa b11 sr7 cr7 dr7 (fun sr12 cr12 dr12 => (ob (gP sr12 9 0 (G 1 r)) (fun v13 => (ob v13 (fun b14 => (ob (gP sr12 11 18 b14) (fun v15 => (okO sr12 9 (G 1 r) ∧ C_Rr_settle sa (G 1 r) v15 sr12 cr12 dr12 (fun sr16 cr16 dr16 => Pn sr16 cr16 dr16))))))))))))))))))))))))))))) := by
    intro v hv
    rcases rad with ⟨a1, a2⟩ | ⟨a1, pa, a2, a3, a4⟩
    · rw [hv, a2]
      refine ifT rfl (kk G1 H1 s1 t1 kc1 ks1 sp ?_)
      rw [if_pos a1]
      rfl
    · rw [hv, a2]
      have hne : t.I 75 (8 * r + (2 * p + f)) ≠ 0 := by rw [a1]; decide
      refine ifF (by simp) (w_entry (okr k26' 9) hq1.ox e180 h238.1 h238.2 (okr a3 5) a4 fun s2 hK hP fe hpf => ?_)
      have hR2 := rr_18 hR1 hM1 hK hP fe
      have hln := neP_ok hM hr (y := 2 * p + f) (by omega) hne
      rw [show (2 * p + f) % 2 = f by omega] at hln
      have ePf : neP t r (2 * p + f) = (nI f, t.J 76 (8 * r + (2 * p + f)) &&& mskH (t.I 78 (8 * r + (2 * p + f))), t.J 77 (8 * r + (2 * p + f)) &&& mskL (t.I 78 (8 * r + (2 * p + f))), t.I 78 (8 * r + (2 * p + f))) := by
        unfold neP
        rw [show (2 * p + f) % 2 = f by omega]
      have hPK' := hPK hne
      rw [ePf] at hPK'
      have pS : potS s2 G1 H1 r = potS s1 G1 H1 r := by unfold potS cpT; rw [hK, hP]
      have hset := c_settle (f := nI f) (h := t.J 76 (8 * r + (2 * p + f)) &&& mskH (t.I 78 (8 * r + (2 * p + f)))) (l := t.J 77 (8 * r + (2 * p + f)) &&& mskL (t.I 78 (8 * r + (2 * p + f)))) (n := t.I 78 (8 * r + (2 * p + f))) (p := H1 238 x) (kc := kc1) (ks := ks1) (Q := fun sr16 cr16 dr16 => Pn sr16 cr16 dr16) hR2 hM1 hr1 (by rw [m.I 39 (by decide)]; exact hrun) hln ⟨px_and, px_and⟩ hpf (okr (u := 18) (by rw [hK]; exact h238.2) 5) (Or.inl (by rw [hK]; exact h238.2)) (fun z => sq.2.2.1.lt hM1 hr1 hPK' fun j hj y => z j hj ((pfR_v (hM1.kl hr1 hj) hln).mp y)) (by omega) (by rw [pS]; omega) (by
        intro G2 H2 s3 t2 kc2 ks2 eSA hR3 hM3 c1 c2 c3 c4 c5 c6 c7 c8
        obtain ⟨t2', y1, y2, -⟩ := sq.st hr hln hPK'
        rw [eSA] at y1
        cases y1
        refine kk G2 H2 s3 t2 kc2 ks2 ⟨hR3, y2, fun b h4 h13 => (c1 b h4 h13).trans (g1 b h4 h13), fun r' hne => (c2 r' hne).trans (g2 r' hne), fun g a ha => (c3 g a (by rw [hK, (f1 a ha).1]; exact ha)).trans (hA1 g a ha), (f1.tr (fe.wk (Rv' := Rtb) (Gp' := Ptb) (Rq' := Qtb))).tr c4, fun b g hb hk hg => ?_, by omega, by rw [pS] at c8; omega⟩ ?_
        · rw [e1, hA1.u k26 186] at c6
          rw [c6 b g hb (by rw [hK, (f1 b hk).1]; exact hk) hg, hP]
          exact p1 b g hb hk hg
        · rw [if_neg hne, ePf]
          show Option.bind (SA t1 r _ _ _ _) _ = _
          rw [eSA]
          rfl)
      rw [e1] at hset
      exact hset
  unfold C_Po_addressOf
  rcases Nat.lt_or_ge f 1 with z | z
  · have : f = 0 := by omega
    subst this
    exact ifT rfl ⟨_, gd_to o4, tail _ rfl⟩
  · have : f = 1 := by omega
    subst this
    exact ifF (by decide) ⟨_, gd_to o4, tail _ rfl⟩
/-- both of an interface's networks, where the router runs -/
theorem c_sport (hR : RR G H sa x s t) (hM : MV t) (hr : r < cR t) (hrun : t.I 39 r ≠ 0) (hp : p < cI t r) (hb : KB K t r) (hPK : ∀ f, f < 2 → t.I 75 (8 * r + (2 * p + f)) ≠ 0 → neP t r (2 * p + f) ∈ K) (hkc : potC G r ≤ kc) (hks : potS s G H r ≤ ks) {Q : cS → Nat → Nat → Prop} (kk : ∀ G2 H2 s2 t2 kc2 ks2, SPI G H sa x s t r K kc ks G2 H2 s2 t2 kc2 ks2 → SAs t r (L2M t r 2 (2 * p)) = some t2 → Q s2 kc2 ks2) : C_Rr_settlePort sa (G 1 r) (some (G 2 (4 * r + p))) s kc ks Q := by
  have k26 := (hR.q.1.rt hr).1.1
  have sp0 : SPI G H sa x s t r K kc ks G H s t kc ks := ⟨hR, ⟨hM, rwT.rf, hb, fun _ _ => rfl⟩, fun _ _ _ => rfl, fun _ _ => rfl, hA.rf, fr.rf, fun _ _ _ _ _ => rfl, Nat.le_refl _, Nat.le_refl _⟩
  unfold C_Rr_settlePort C_Rr_settlePort_b2
  intro P hP
  have fin : ∀ s' kc' ks', Q s' kc' ks' → P 8 s' kc' ks' := fun s' kc' ks' hQ => by
    apply hP
    unfold C_Rr_settlePort_s2
    exact ifT (by decide) hQ
  apply hP
  unfold C_Rr_settlePort_s2
  refine ifF (by decide) ⟨_, rfl, ?_⟩
  refine sp_step (f := 0) (Pn := fun s' kc' ks' => P (4 + 2) s' kc' ks') sp0 hM hr k26 hrun hp (by decide) (hPK 0 (by decide)) hkc hks fun G2 H2 s2 t2 kc2 ks2 sp2 e2 => ?_
  show P 6 s2 kc2 ks2
  apply hP
  unfold C_Rr_settlePort_s2
  refine ifF (by decide) ⟨_, rfl, ?_⟩
  refine sp_step (f := 1) (Pn := fun s' kc' ks' => P (6 + 2) s' kc' ks') sp2 hM hr k26 hrun hp (by decide) (hPK 1 (by decide)) hkc hks fun G3 H3 s3 t3 kc3 ks3 sp3 e3 => ?_
  refine fin s3 kc3 ks3 (kk G3 H3 s3 t3 kc3 ks3 sp3 ?_)
  show SAs t r ((if t.I 75 (8 * r + (2 * p + 0)) = 0 then [] else [neP t r (2 * p + 0)]) ++ ((if t.I 75 (8 * r + (2 * p + 1)) = 0 then [] else [neP t r (2 * p + 1)]) ++ [])) = some t3
  rw [List.append_nil, SAs_ap, e2]
  exact e3
end Sq
