/-! A request is answered entry by entry: both sides. -/
abbrev Wae : List Nat := Wan ++ Wsd
section Ec
variable {G H : Nat → Nat → Nat} {sa : Nat → Nat} {x kc ks r p A f i0 n lk : Nat} {s : cS} {t : moS} {po ho : Int32} {h l : Int64} {L : List Int32} {Q : cS → Nat → Nat → Prop}
theorem c_each (hR : RR G H sa x s t) (hM : MV t) (hr : r < cR t) (hp : p < cI t r) (hH : HE H s A L f h l po ho) (hF : hFr G t A) (hI : IN t L) (hB : ∀ j, L.getD j 0 = nI (vc L j)) (h75 : t.I 75 (2 * (4 * r + p) + f) ≠ 0) (i50 : s.I 50 A = nI i0) (i51 : s.I 51 A = nI (i0 + 20 * n)) (s162 : t.S 162 = nI i0) (hn : i0 + 20 * n ≤ L.length) (h560 : 20 * n ≤ 560 ∧ ((mcV t (4 * r + p)).1 = 2 → 20 * n ≤ 520)) (hlL : lk < cL t) (h71 : t.I 71 (4 * r + p) = nI lk) (hs : ¬ t.I 23 lk + 1 < 0) (hkc : PoC s G H t ≤ kc) (hks : PoS s G H t ≤ ks) (k : ∀ t', M_answer_b45 t (nI (4 * r + p)) (nI f) h l (nI n) 0 = some t' → MV t' → mfr Wae t t' → SB lk 1 t t' → SD t t' → TlK sa x G H s t kc ks t' Q) : C_Rr_answerEach sa (G 1 r) (some A) (some (G 2 (4 * r + p))) s kc ks Q := by
  have h10 := hM.nL
  have hq := hR.q.1
  have hf := hH.2.2.2.2
  have kA := hH.1
  have i44 := hH.2.2.2.1.1
  have hl6 : L.length ≤ 600 := by obtain ⟨-, -, d, -, -, -, e, -⟩ := hH.2.1; exact e
  have nA : A ≠ G 11 999 := hF.1
  obtain ⟨te, bd, eM⟩ := m_body (h := h) (l := l) hM hr hp hI hB hf s162 hn hl6 (by omega)
  have me := bd.1
  have Me : MV te := hM.fr me rfl (hM.1.fr me rfl)
  have Re : RR G H sa x s te := rr_fr hR hM hq.1 (fr.rf (Rv := []) (Gp := []) (Rq := [])) me rfl rfl rfl rfl rfl rfl rfl
  have hre : r < cR te := by unfold cR; rw [me.S 37 (by decide)]; exact hr
  have hpe : p < cI te r := by unfold cI; rw [me.I 70 (by decide)]; exact hp
  have hle : lk < cL te := by unfold cL; rw [me.S 17 (by decide)]; exact hlL
  have h71e : te.I 71 (4 * r + p) = nI lk := by rw [me.I 71 (by decide)]; exact h71
  have h75e : te.I 75 (2 * (4 * r + p) + f) ≠ 0 := by rw [me.I 75 (by decide)]; exact h75
  have hse : ¬ te.I 23 lk + 1 < 0 := by rw [me.I 23 (by decide)]; exact hs
  have eVe : mcV te (4 * r + p) = mcV t (4 * r + p) := by
    unfold mcV
    rw [me.I 79 (by decide), me.I 80 (by decide), me.I 81 (by decide), me.I 82 (by decide), me.I 83 (by decide), me.I 84 (by decide), me.I 85 (by decide), me.I 86 (by decide), me.I 87 (by decide), me.I 88 (by decide)]
  have ec := fun (s : cS) => pot_t (G := G) (H := H) (s := s) me rfl
  have hcl : (te.I 71 (4 * r + p)).toNatClampNeg = lk := by rw [h71e, nI_clamp (by omega)]
  have hX0 := px_of Re Me hre hpe
  rw [hcl] at hX0
  have hX := hX0
  obtain ⟨⟨x1, x2, x3, x4, x5, x6, x7, -, -⟩, ⟨y1, y2, -⟩, ⟨z1, z2, z3, z4, z5, z6⟩, -⟩ := hX
  -- the bytes
  obtain ⟨M, eMf⟩ : ∃ M : Nat → Int32, M = fun k => aeM t r (fun j => L.getD j 0) f (i0 + 20 * k) := ⟨_, rfl⟩
  rw [← eMf] at bd
  have hEl : (tl (anF L f i0 M n) (20 * n)).length = 20 * n := tl_len _ _
  have hEe : ∀ i, i < (tl (anF L f i0 M n) (20 * n)).length → te.I 146 i = (tl (anF L f i0 M n) (20 * n)).getD i 0 := fun i hi => by
    rw [hEl] at hi
    rw [tl_get hi]
    exact bd.2 i hi
  have h5k : (mcV te (4 * r + p)).1 = 2 → (tl (anF L f i0 M n) (20 * n)).length ≤ 520 := fun z => by rw [hEl]; rw [eVe] at z; exact h560.2 z
  obtain ⟨t', g1, M', m', sb, sd⟩ := m_send2 (ta := 0) (th := h) (tl := l) (m := n) Me hre hpe hf hle h71e z4 z6 hEl (by rw [hEl]; exact h560.1) h5k hEe (Or.inl rfl) hse
  have eM' : M_answer_b45 t (nI (4 * r + p)) (nI f) h l (nI n) 0 = some t' := by rw [eM, g1]; rfl
  have kk := k t' eM' M' ((me.wk (by decide)).tr (m'.wk (by decide))) (((SB.fr (l := lk) (n := 0) me (by decide)).tr sb).wk (by omega)) ((SD.fr me rfl).tr sd)
  have eF : cF te = cF t := by unfold cF; rw [me.S 123 (by decide)]
  unfold C_Rr_answerEach
  refine ⟨A, rfl, _, gd_to (okr kA 2), x1, ?_⟩
  rw [show s.I (20 * 2 + 4) A = fam (nI f) from i44]
  refine c_open Re Me hre hpe hX0 rfl hf (by decide) (fun z => ifT rfl ?_) (fun ky hd s1 u0 n75 hop R1 f1 b1 j44 eP o01 => ?_)
  · -- nothing can go
    obtain ⟨v1, v2, -⟩ := m_send (cmd := 2) (ta := 0) (th := h) (tl := l) (m := n) Me hre hpe hf hle h71e z4 z6 hEl (by rw [hEl]; exact h560.1) hEe h5k
    have ex : ∃ t1, M_send te (nI (4 * r + p)) (nI f) 2 (nI n) 0 h l = some t1 ∧ mfr [147, 148] te t1 := by
      by_cases u : te.I 22 lk = 0
      · exact ⟨te, v1 u, mfr.rf⟩
      · rcases z with z | z | z
        · exact absurd z u
        · exact absurd z h75e
        · exact v2 u (op_no z)
    obtain ⟨t1, w1, w2⟩ := ex
    rw [g1] at w1
    cases w1
    have R' : RR G H sa x s t' := rr_fr Re Me Re.q.1.1 (fr.rf (Rv := []) (Gp := []) (Rq := [])) w2 rfl rfl rfl rfl rfl rfl rfl
    have e2 := pot_t (G := G) (H := H) (s := s) w2 rfl
    exact kk G H s kc ks R' (fun _ _ _ _ _ => rfl) hA.rf fr.rf (HO.rf (by unfold cF; rw [w2.S 123 (by decide), me.S 123 (by decide)])) (by rw [e2.1, (ec s).1]; exact Nat.le_refl _) (by rw [e2.2, (ec s).2]; exact Nat.le_refl _)
  -- the head
  generalize ht1 : (if ky = none then te else moSI te 89 (4 * r + p) (te.I 89 (4 * r + p) + 1)) = t1 at R1
  have m1 : mfr [89] te t1 := by
    rw [← ht1]
    split
    · exact mfr.rf
    · exact mfr.si (by decide)
  have M1 : MV t1 := by
    rw [← ht1]
    split
    · exact Me
    · exact (rr_num Re Me hre hpe).2.1
  have hr1 : r < cR t1 := by unfold cR; rw [m1.S 37 (by decide)]; exact hre
  have hk4 : ∀ kx, ky = some kx → kx < 4 := fun kx e => Nat.lt_of_lt_of_le ((op_wr (E := []) z4 hop).2 kx e).1 z4.2.1
  have hd24 : hd.length ≤ 24 := by
    obtain ⟨w0, w1⟩ := op_wr (E := []) z4 hop
    cases ek2 : ky with
    | none => exact (w0 ek2).2.2
    | some kx => rw [(w1 kx ek2).2.1]; exact Nat.le_refl 24
  have hT := Re.q.1.ty
  have hT1 := R1.q.1.ty
  have ok1 : ∀ {u' a' : Nat}, okO s u' a' → okO s1 u' a' := fun h => by have n := okO.n0 h; unfold okO at h ⊢; rw [(f1 _ n).1]; exact h
  have XA := o01 A kA nA
  have kA1 : (s1.K A).1 = 6 := f1.r kA
  have kD1 : (s1.K (G 11 999)).1 = 6 := f1.r x7
  have H1 : HE H s1 A L f h l po ho := hH.hx (hdX.of XA) kA1
  have j50 : s1.I 50 A = nI i0 := by rw [XA.1]; exact i50
  have j51 : s1.I 51 A = nI (i0 + 20 * n) := by rw [XA.1]; exact i51
  have jA : s1.I 44 A = fam (nI f) := H1.2.2.2.1.1
  obtain ⟨d, hw1⟩ := b1.fw
  -- the end
  have hfin : ∀ u s3, fr [18] [] [] s1 u → u.K = s1.K → u.P = s1.P → FW (H 40 (G 11 999)) d u (hd ++ tl (anF L f i0 M n) (20 * n)) s3 → (if ixO 0 ky = ((-1) : Int32) then ((C_Rr_answerEach_b162 sa (G 1 r) (some A) (some (G 2 (4 * r + p))) s3 kc ks Q)) else (ob (some (G 2 (4 * r + p))) (fun b3 => (ob (gP s3 4 6 b3) (fun v4 => (ob v4 (fun b5 => (okO s3 1 b5 ∧ C_Ch_seal sa b5 (some (H 40 (G 11 999))) (ixO 0 ky) s3 kc ks (fun sr6 cr6 dr6 => ((C_Rr_answerEach_b162 sa (G 1 r) (some A) (some b3) sr6 cr6 dr6 Q))))))))))) := by
    intro u s3 fu uK uP hw
    obtain ⟨fm, fb⟩ := mx_fr (s := s) (u := u)
    have Rm : RR G H sa x (mx18 s u) te := rr_fr Re Me (Re.q.1.1.v rfl rfl fm rfl rfl rfl) fm (mfr.rf (W := [])) rfl rfl rfl rfl rfl rfl rfl
    have fmu := mx_to f1 fu
    have Ru : RR G H sa x u t1 := rr_fr R1 M1 (R1.q.1.1.v uK uP fu rfl rfl rfl) fu (mfr.rf (W := [])) rfl rfl rfl rfl rfl rfl rfl
    have hXm := px_of Rm Me hre hpe
    rw [hcl] at hXm
    have k12 := (hT.p kA 41 12).2
    obtain ⟨q1, q2, q3, -⟩ := hH.2.2.1.fr fm k12 (by decide)
    have hTG : TG0 H (mx18 s u) (G 11 999) (some (H 41 A)) 0 h l f := Or.inr ⟨H 41 A, rfl, rfl, q1, q2, q3, Or.inr ⟨A, kA, nA, rfl⟩⟩
    have om : ∀ A', ((mx18 s u).K A').1 = 6 → A' ≠ G 11 999 → hdF H A' (mx18 s u) u := fun A' kA' ne => (hdF.fr fb Rm.q.1.ty kA' rfl (nin6 rfl) (by decide)).tr ((o01 A' kA' ne).tr (hdF.fr fu hT1 (f1.r kA') rfl (nin6 rfl) (by decide)))
    have ek := pot_kp (G := G) (H := H) (t := te) (s := s) (s1 := mx18 s u) rfl rfl
    obtain ⟨w1, w2⟩ := pot_p (G := G) (H := H) (s := mx18 s u) Me hre hpe hle
    rw [ek.1, (ec s).1] at w1
    rw [ek.2, (ec s).2] at w2
    have k29 := (hT.p Re.q.1.1.1 237 29).2
    obtain ⟨s0, sk⟩ := sd_end (kc := kc) (ks := ks) (Q := Q) Rm Me hre hpe hf (by decide) hXm hcl.symm rfl hEl (by rw [hEl]; exact h560.1) h5k hEe u0 n75 hop (by rw [ht1]; exact Ru) fmu (by rw [(fu.v kD1 (by decide)).1]; exact j44) (by rw [uP, eP]; rfl) om hw hTG hse (Nat.le_trans (ar_50 w1) hkc) (Nat.le_trans (ar_5 w2) hks) g1 (by
      intro G3 H3 s4 kc3 ks3 R3 d1 d2 d3 d4 d5 d6 d7 o3
      obtain ⟨u1, u2⟩ := pot_ask (kc := kc) (kc' := kc3) (ks := ks) (ks' := ks3) Rm Me hre hpe hle rfl m' d1 d2 d3 d4 d5 d6 d7
      rw [ek.1, (ec s).1] at u1
      rw [ek.2, (ec s).2] at u2
      obtain ⟨v1, v2⟩ := td_same (G' := G3) (H' := H3) Rm.q.1.1 (d1 15 (by decide) (by decide)) d2 d3 (d3.p k29 (by decide))
      have v3 : tdS (mx18 s u) G H x = tdS s G H x := td_kp rfl rfl
      refine kk G3 H3 s4 kc3 ks3 R3 (fun b y1 y2 _ _ => d1 b y1 y2) d2 (fm.wk.tr d3.wk) (HO.pre (fun A' kA' _ => hdF.fr fm hT kA' rfl (nin6 rfl) (by decide)) eF (fun _ h => h) o3) ?_ ?_
      · rw [v1]; exact ar_t1 u1
      · rw [v2, v3]; exact ar_t1 u2)
    have K3 : s3.K = s1.K := hw.1.1.trans uK
    have P3 : s3.P = s1.P := hw.1.2.1.trans uP
    have ok3 : ∀ {u' a' : Nat}, okO s u' a' → okO s3 u' a' := fun h => by have := ok1 h; unfold okO at this ⊢; rw [K3]; exact this
    have q41 : s3.P 41 A = some (H 41 A) := by rw [P3, eP]; exact (hT.p kA 41 12).1
    cases ek2 : ky with
    | none =>
      refine ifT rfl ?_
      unfold C_Rr_answerEach_b162
      refine ⟨A, rfl, _, gd_to (ok3 (okr kA 2)), ?_⟩
      rw [show s3.P (20 * 2 + 1) A = some (H 41 A) from q41]
      exact s0 ek2
    | some kx =>
      have hkx := hk4 kx ek2
      obtain ⟨s2, s3'⟩ := sk kx ek2
      refine ifF (ixO_n (by omega)) ⟨_, rfl, _, gd_to (ok3 y1), H 86 (G 2 (4 * r + p)), by show s3.P 86 _ = _; rw [P3, eP]; exact z1, s2, ?_⟩
      rw [show ixO 0 (some kx) = nI kx by show nI (0 + kx) = _; rw [Nat.zero_add]]
      refine s3' _ fun s4 kc4 ks4 hk hh => ?_
      unfold C_Rr_answerEach_b162
      obtain ⟨kA4, e41⟩ := hk A (by rw [K3]; exact kA1)
      refine ⟨A, rfl, _, gd_to (okr kA4 2), ?_⟩
      rw [show s4.P (20 * 2 + 1) A = some (H 41 A) from e41.trans q41]
      exact hh
  -- the entries
  have core : C_Rr_answerEach_b43 sa (G 1 r) (some A) (some (G 2 (4 * r + p))) (ixO 0 ky) (some (H 40 (G 11 999))) (nI (if f = 0 then 4 else 1)) s1 kc ks Q := by
    unfold C_Rr_answerEach_b43 C_Rr_answerEach_b51
    refine ⟨A, rfl, _, gd_to (okr kA1 2), ?_⟩
    rw [show s1.I (20 * 2 + 10) A = nI i0 from j50]
    intro P hP
    refine ae_loop (d := d) (hd := hd) (M := M) hP R1 M1 hr1 H1 j51 rfl rfl kD1 nA hB hn rfl (by omega) (fun k => ?_) hfin n 0 s1 s1 (by omega) fr.rf rfl rfl ?_
    · rw [eMf]
      exact (aeM_fr ((me.wk (V := 89 :: Wan) (by decide)).tr (m1.wk (by decide))) rfl).symm
    · have : tl (anF L f i0 M n) (20 * 0) = [] := rfl
      rw [this, List.append_nil]
      exact hw1
  refine ifF (ixO_2 fun kx e => Nat.lt_trans (hk4 kx e) (by decide)) ⟨_, gd_to (ok1 x1), x, by show s1.P 180 _ = _; rw [eP]; exact x2, _, gd_to (ok1 x3), G 11 999, by show s1.P 236 _ = _; rw [eP]; exact x4, _, gd_to (ok1 x5), _, gd_to (okr kA1 2), ?_⟩
  rw [show s1.I (20 * 2 + 4) A = fam (nI f) from jA, show s1.P (20 * 2 + 0) (G 11 999) = some (H 40 (G 11 999)) by show s1.P 40 _ = _; rw [eP]; exact x6]
  rcases hf with rfl | rfl
  · exact ifT rfl core
  · exact ifF (by decide) core
end Ec
