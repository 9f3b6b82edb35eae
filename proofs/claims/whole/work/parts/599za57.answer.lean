/-! A request is answered: both sides. -/
theorem as_e {g g' : Nat → Int32} {f o : Nat} (h : ∀ j, j < 700 → g j = g' j) (ho : o + 20 ≤ 700) : asF g f o ↔ asF g' f o := by
  have z : ∀ c, c ≤ 700 → (zrF g o c ↔ zrF g' o c) := fun c hc => ⟨fun y j h1 h2 => (h j (by omega)).symm.trans (y j h1 h2), fun y j h1 h2 => (h j (by omega)).trans (y j h1 h2)⟩
  unfold asF
  rw [me_e h ho, z _ (by split <;> omega)]
abbrev Wan2 : List Nat := 45 :: (Wae ++ Wtl)
section Aq
variable {G H : Nat → Nat → Nat} {sa : Nat → Nat} {x kc ks r p A f i0 n lk : Nat} {s : cS} {t : moS} {po ho : Int32} {h l : Int64} {L : List Int32} {Q : cS → Nat → Nat → Prop}
/-- all is asked for -/
theorem c_all (hR : RR G H sa x s t) (hM : MV t) (hr : r < cR t) (hp : p < cI t r) (hH : HE H s A L f h l po ho) (hF : hFr G t A) (h75 : t.I 75 (2 * (4 * r + p) + f) ≠ 0) (hlL : lk < cL t) (h71 : t.I 71 (4 * r + p) = nI lk) (hs : ∃ d, t.I 23 lk = nI d ∧ d + 885 < 2 ^ 31) (hkc : PoC s G H t + tdC G ≤ kc) (hks : PoS s G H t + tdS s G H x ≤ ks) (k : ∀ t', Option.bind (M_gather t (nI (4 * r + p)) (nI f) 0) (fun s3 => Option.bind (M_tellTo s3 (nI (4 * r + p)) (nI f) 0 h l) (fun s4 => some s4)) = some t' → MV t' → mfr Wtl t t' → SB lk 885 t t' → SD t t' → TlK sa x G H s t kc ks t' Q) : C_Rr_gather sa (G 1 r) (some (G 2 (4 * r + p))) (fam (nI f)) 0 s kc ks (fun sr11 cr11 dr11 => (ob (gI sr11 2 4 A) (fun v12 => (ob (gP sr11 2 1 A) (fun v13 => (okO sr11 9 (G 1 r) ∧ C_Rr_sendTold sa (G 1 r) (some (G 2 (4 * r + p))) v12 v13 sr11 cr11 dr11 (fun sr14 cr14 dr14 => (Q sr14 cr14 dr14)))))))) := by
  have hf := hH.2.2.2.2
  have kA := hH.1
  have hq := hR.q.1
  have hfa : bit (nI f) := by
    rcases hf with rfl | rfl
    · exact Or.inl rfl
    · exact Or.inr rfl
  obtain ⟨t1, e1, E1, m1⟩ := m_gather (f := nI f) (how := 0) hM hr hp h71 hfa (Or.inl rfl)
  obtain ⟨-, hok, hLen⟩ := gL_ok (l := lk) (f := nI f) (how := 0) hM hr hp hfa (Or.inl rfl)
  have md : mfr Wdn t t1 := m1.wk (by decide)
  have hM1 := hM.dn md
  have hr1 : r < cR t1 := by unfold cR; rw [m1.S 37 (by decide)]; exact hr
  have hp1 : p < cI t1 r := by unfold cI; rw [m1.I 70 (by decide)]; exact hp
  have hl1 : lk < cL t1 := by unfold cL; rw [m1.S 17 (by decide)]; exact hlL
  have h711 : t1.I 71 (4 * r + p) = nI lk := by rw [m1.I 71 (by decide)]; exact h71
  have h751 : t1.I 75 (2 * (4 * r + p) + f) ≠ 0 := by rw [m1.I 75 (by decide)]; exact h75
  refine c_gather hR hM hr hp h71 hlL hfa (Or.inl rfl) (ar_t3 hkc).2 (ar_t3 hks).2 (GaK.toT hR hM fun G1 H1 s1 kc1 ks1 R1 g1 h1 f1 T1 o1 c1 c2 => ?_)
  generalize gL t r (4 * r + p) lk (nI f) 0 = Lg at E1 hok hLen T1
  have R1' : RR G1 H1 sa x s1 t1 := rr_fr R1 hM R1.q.1.1 (fr.rf (Rv := []) (Gp := []) (Rq := [])) m1 rfl rfl rfl rfl rfl rfl rfl
  have ec1 := pot_t (G := G1) (H := H1) (s := s1) m1 rfl
  have e11 : G1 1 = G 1 := g1 1 (by decide) (by decide)
  have e12 : G1 2 = G 2 := g1 2 (by decide) (by decide)
  have hkc1 : PoC s1 G1 H1 t1 + tdC G1 ≤ kc1 := by rw [ec1.1]; exact ar_7 c1 hkc
  have hks1 : PoS s1 G1 H1 t1 + tdS s1 G1 H1 x ≤ ks1 := by rw [ec1.2]; exact ar_7 c2 hks
  have o1' : HO G H s t G1 s1 t1 := fun A kA hF => ⟨(o1 A kA hF).1, by
    have := (o1 A kA hF).2
    unfold hFr at this ⊢
    rw [show cF t1 = cF t by unfold cF; rw [m1.S 123 (by decide)]]
    exact this⟩
  obtain ⟨XA, FA⟩ := o1' A kA hF
  have kA1 : (s1.K A).1 = 6 := f1.r kA
  have H1' : HE H1 s1 A L f h l po ho := (hH.hx (hdX.of XA) kA1).hA h1 (by rw [kA]; decide)
  have p41 := R1.q.1.ty.p kA1 41 12
  obtain ⟨q1, q2, q3, -⟩ := H1'.2.2.1
  have hTG : TGh G1 H1 s1 t1 (some (H1 41 A)) 0 h l f := Or.inr ⟨H1 41 A, rfl, rfl, q1, q2, q3, Or.inr ⟨A, kA1, FA, rfl⟩⟩
  refine ⟨_, gd_to (okr kA1 2), _, gd_to (okr kA1 2), ?_, ?_⟩
  · rw [← e11]
    exact okr (R1'.q.1.rt hr1).1.1 9
  rw [show s1.I (20 * 2 + 4) A = fam (nI f) from H1'.2.2.2.1.1, show s1.P (20 * 2 + 1) A = some (H1 41 A) from p41.1, ← e11, ← e12]
  refine tt_all hf hok hLen R1' hM1 hr1 hp1 hl1 h711 h751 T1 E1 hTG ?_ (ar_t3 hkc1).1 (ar_t3 hks1).1 fun t' w1 w2 w3 w4 w5 => ?_
  · obtain ⟨d, e, hd⟩ := hs
    exact ⟨d, by rw [m1.I 23 (by decide)]; exact e, by omega⟩
  · have kk := k t' (by rw [e1]; simp only [Option.bind_some]; rw [w1]; rfl) w2 ((m1.wk (by decide)).tr (w3.wk (by decide))) (((SB.fr (l := lk) (n := 0) m1 (by decide)).tr w4).wk (by omega)) ((SD.fr m1 rfl).tr w5)
    exact SnK.toT T1 R1'.q.1.1 (kk.tr (fun b _ _ z3 z4 => g1 b z3 z4) h1 f1 o1' (by rw [ec1.1]; exact c1) (by rw [ec1.2]; exact c2))
theorem c_answer (hR : RR G H sa x s t) (hM : MV t) (hr : r < cR t) (hp : p < cI t r) (hH : HE H s A L f h l po ho) (hF : hFr G t A) (hI : IN t L) (hB : ∀ j, L.getD j 0 = nI (vc L j)) (h75 : t.I 75 (2 * (4 * r + p) + f) ≠ 0) (i50 : s.I 50 A = nI i0) (i51 : s.I 51 A = nI (i0 + 20 * n)) (s162 : t.S 162 = nI i0) (s163 : t.S 163 = nI n) (hn : i0 + 20 * n ≤ L.length) (h560 : 20 * n ≤ 560 ∧ ((mcV t (4 * r + p)).1 = 2 → 20 * n ≤ 520)) (hlL : lk < cL t) (h71 : t.I 71 (4 * r + p) = nI lk) (hs : ∃ d, t.I 23 lk = nI d ∧ d + 885 < 2 ^ 31) (hkc : PoC s G H t + tdC G ≤ kc) (hks : PoS s G H t + tdS s G H x ≤ ks) (k : ∀ t', M_receive_b346 t (nI (4 * r + p)) (nI f) h l 0 = some t' → MV t' → mfr Wan2 t t' → SB lk 885 t t' → SD t t' → TlK sa x G H s t kc ks t' Q) : C_Rr_answer sa (G 1 r) (some A) (some (G 2 (4 * r + p))) s kc ks Q := by
  have hf := hH.2.2.2.2
  have kA := hH.1
  have hq := hR.q.1
  have hT := hq.ty
  have h6 := hM.nR
  have h4 := hM.nIf hr
  have hl6 : L.length ≤ 600 := by obtain ⟨-, -, d, -, -, -, e, -⟩ := hH.2.1; exact e
  have k26 := (hq.rt hr).1.1
  have e4 : nI (4 * r + p) / 4 = nI r := by
    have : nI (4 * r + p) / 4 = nI ((4 * r + p) / 4) := pk_div (d := 4) (by omega) (by decide) (by decide)
    rw [this]
    congr 1
    omega
  unfold C_Rr_answer
  refine ⟨A, rfl, _, gd_to (okr kA 2), _, gd_to (okr kA 2), ?_⟩
  rw [show s.I (20 * 2 + 10) A = nI i0 from i50, show s.I (20 * 2 + 11) A = nI (i0 + 20 * n) from i51]
  have eM0 : M_receive_b346 t (nI (4 * r + p)) (nI f) h l 0 = if 0 < nI n then Option.bind (M_answer t (nI (4 * r + p)) (nI f) h l) (fun s1 => some s1) else some t := by
    unfold M_receive_b346
    rw [if_pos rfl, s163]
  by_cases c0 : n = 0
  · rw [c0, if_neg (by decide)] at eM0
    refine ifF (by rw [c0]; exact nI_nlt (by omega) (by omega)) ?_
    exact k t eM0 hM mfr.rf SB.rf SD.rf G H s kc ks hR (fun _ _ _ _ _ => rfl) hA.rf fr.rf (HO.rf rfl) (Nat.le_refl _) (Nat.le_refl _)
  rw [if_pos (show (0 : Int32) < nI n from nI_lt (a := 0) (by omega) (by omega))] at eM0
  refine ifT (nI_lt (by omega) (by omega)) (w_tly (i := 8) hq hr (by decide) ?_)
  obtain ⟨R7, M7⟩ := rr_cnt (i := 8) (v := t.I 45 (11 * r + 8) + 1) hR hM hr (by decide)
  have R7 : RR G H sa x (tlC s G H t r 8) (tlM t r 8) := R7
  have M7 : MV (tlM t r 8) := M7
  have f7 := tl_fr (i := 8) hq hr
  have m7 := tl_m (t := t) (r := r) (i := 8)
  have t7 := m_tly (i := 8) hM hr (by decide)
  have K7 : (tlC s G H t r 8).K = s.K := rfl
  have P7 : (tlC s G H t r 8).P = s.P := rfl
  have eM1 : M_answer t (nI (4 * r + p)) (nI f) h l = Option.bind (M_asksForAll (tlM t r 8) (nI f)) (fun x2 => if x2 = 0 then M_answer_b45 (tlM t r 8) (nI (4 * r + p)) (nI f) h l (nI n) 0 else Option.bind (M_gather (tlM t r 8) (nI (4 * r + p)) (nI f) 0) (fun s3 => Option.bind (M_tellTo s3 (nI (4 * r + p)) (nI f) 0 h l) (fun s4 => some s4))) := by
    unfold M_answer
    rw [e4]
    refine (congrArg (fun y => Option.bind y _) t7).trans ?_
    simp only [Option.bind_some]
    rw [m7.S 163 (by decide), s163]
  generalize tlC s G H t r 8 = s7 at R7 f7 K7 P7 ⊢
  generalize tlM t r 8 = t7 at R7 M7 m7 eM1
  have z1 := pot_kp (G := G) (H := H) (t := t7) (s := s) (s1 := s7) K7 P7
  have z2 := pot_t (G := G) (H := H) (s := s) m7 rfl
  have z3 : tdS s7 G H x = tdS s G H x := td_kp K7 P7
  have hr7 : r < cR t7 := by unfold cR; rw [m7.S 37 (by decide)]; exact hr
  have hp7 : p < cI t7 r := by unfold cI; rw [m7.I 70 (by decide)]; exact hp
  have hl7 : lk < cL t7 := by unfold cL; rw [m7.S 17 (by decide)]; exact hlL
  have h717 : t7.I 71 (4 * r + p) = nI lk := by rw [m7.I 71 (by decide)]; exact h71
  have h757 : t7.I 75 (2 * (4 * r + p) + f) ≠ 0 := by rw [m7.I 75 (by decide)]; exact h75
  have XA : hdF H A s s7 := hdF.fr f7 hT kA rfl (nin6 rfl) (by decide)
  have kA7 : (s7.K A).1 = 6 := by rw [K7]; exact kA
  have H7 : HE H s7 A L f h l po ho := hH.hx (hdX.of XA) kA7
  have F7 : hFr G t7 A := by unfold hFr cF at hF ⊢; rw [m7.S 123 (by decide)]; exact hF
  have I7 : IN t7 L := hI.fr m7 rfl
  have j50 : s7.I 50 A = nI i0 := by rw [XA.1]; exact i50
  have j51 : s7.I 51 A = nI (i0 + 20 * n) := by rw [XA.1]; exact i51
  have s162' : t7.S 162 = nI i0 := by rw [m7.S 162 (by decide)]; exact s162
  have s163' : t7.S 163 = nI n := by rw [m7.S 163 (by decide)]; exact s163
  have hkc7 : PoC s7 G H t7 + tdC G ≤ kc := by rw [z1.1, z2.1]; exact hkc
  have hks7 : PoS s7 G H t7 + tdS s7 G H x ≤ ks := by rw [z1.2, z2.2, z3]; exact hks
  obtain ⟨dd, e23, hdd⟩ := hs
  have e237 : t7.I 23 lk = nI dd := by rw [m7.I 23 (by decide)]; exact e23
  have V7 : mcV t7 (4 * r + p) = mcV t (4 * r + p) := by
    unfold mcV
    rw [m7.I 79 (by decide), m7.I 80 (by decide), m7.I 81 (by decide), m7.I 82 (by decide), m7.I 83 (by decide), m7.I 84 (by decide), m7.I 85 (by decide), m7.I 86 (by decide), m7.I 87 (by decide), m7.I 88 (by decide)]
  -- how both go on
  have kt : ∀ t', M_receive_b346 t (nI (4 * r + p)) (nI f) h l 0 = some t' → MV t' → mfr Wan2 t7 t' → SB lk 885 t7 t' → SD t7 t' → TlK sa x G H s7 t7 kc ks t' Q := fun t' w1 w2 w3 w4 w5 => by
    refine (k t' w1 w2 ((m7.wk (by decide)).tr w3) (((SB.fr (l := lk) (n := 0) m7 (by decide)).tr w4).wk (by omega)) ((SD.fr m7 rfl).tr w5)).tr (fun _ _ _ _ _ => rfl) hA.rf f7.wk (fun A' kA' hF' => ⟨hdF.fr f7 hT kA' rfl (nin6 rfl) (by decide), ?_⟩) ?_ ?_
    · unfold hFr cF at hF' ⊢
      rw [m7.S 123 (by decide)]
      exact hF'
    · rw [z1.1, z2.1]; exact Nat.le_refl _
    · rw [z1.2, z2.2, z3]; exact Nat.le_refl _
  obtain ⟨a1, a0⟩ := m_asks (t := t7) (o := i0) (n := n) (f := f) (M7.1.1.n 149 700) s162' s163' (by omega) (fun z => by omega) (fun j _ _ h3 => ⟨vc L j, vc_b L j, (I7.2 j h3).trans (hB j)⟩) hf
  have p40 := R7.q.1.ty.p kA7 40 3
  have o97 : okO s7 9 (G 1 r) := okr (R7.q.1.rt hr7).1.1 9
  refine ⟨okr kA7 2, w_asks (n := 20 * n) kA7 hf H7.2.2.2.1.1 p40.1 p40.2 H7.2.1 j50 j51 hn (fun e20 ca => ifF (by decide) ?_) (fun cn => ifT rfl ⟨o97, ?_⟩)⟩
  · have e1 : n = 1 := by omega
    have em := a1 ⟨e1, (as_e (g' := fun j => L.getD j 0) I7.2 (by omega)).mpr ca⟩
    rw [em] at eM1
    simp only [Option.bind_some] at eM1
    rw [if_neg (by decide)] at eM1
    refine ⟨_, gd_to (okr kA7 2), o97, ?_⟩
    rw [show s7.I (20 * 2 + 4) A = fam (nI f) from H7.2.2.2.1.1]
    refine c_all R7 M7 hr7 hp7 H7 F7 h757 hl7 h717 ⟨dd, e237, hdd⟩ hkc7 hks7 fun t' w1 w2 w3 w4 w5 => kt t' ?_ w2 (w3.wk (by decide)) w4 w5
    rw [eM0, eM1, w1]
    rfl
  · have cn' : ¬ (n = 1 ∧ asF (t7.I 149) f i0) := fun z => cn ⟨by omega, (as_e (g' := fun j => L.getD j 0) I7.2 (by omega)).mp z.2⟩
    have em := a0 cn'
    rw [em] at eM1
    simp only [Option.bind_some] at eM1
    rw [if_pos trivial] at eM1
    refine c_each R7 M7 hr7 hp7 H7 F7 I7 hB h757 j50 j51 s162' hn (by rw [V7]; exact h560) hl7 h717 (by rw [e237, nI_1]; exact nI_pos (by omega)) (ar_t3 hkc7).1 (ar_t3 hks7).1 fun t' w1 w2 w3 w4 w5 => kt t' ?_ w2 (w3.wk (by decide)) (w4.wk (by omega)) w5
    rw [eM0, eM1, w1]
    rfl
end Aq
