/-! An entry of a response: both sides. -/
abbrev Wle : List Nat := 12 :: 13 :: 14 :: 15 :: 164 :: 165 :: Wrow
/-- how it goes on behind an entry -/
def EnK (G H : Nat → Nat → Nat) (sa : Nat → Nat) (x : Nat) (Os : Nat → List Pf) (s : cS) (t : moS) (r : Nat) (o : Ten) (ha la : Int64) (f n : Nat) (kc ks : Nat) (Q : cS → Nat → Nat → Prop) : Prop := ∀ G' H' s' t' ha' kc' ks', o = some (.inl (ha', la, nI (n + 1), t')) → (f ≠ 0 → ha' = ha) → RR G' H' sa x s' t' → MV t' → AGs t' → EX Os t' → mfr Wle t t' → (∀ b, b ≠ 4 → b ≠ 13 → G' b = G b) → (∀ r', r' ≠ r → G' 13 r' = G 13 r') → hA H H' s → fr Rtc Ptb Qtb s s' → (∀ b g, b ≠ H 186 (G 1 r) → (s.K b).1 ≠ 0 → g ≠ 166 → s'.P g b = s.P g b) → kc + potC G' r ≤ kc' + potC G r → ks + potS s' G' H' r ≤ ks' + potS s G H r → Q s' kc' ks'
section Ey
variable {G H : Nat → Nat → Nat} {sa : Nat → Nat} {x kc ks r p A f e n : Nat} {s : cS} {t : moS} {po ho gn : Int32} {h l ha la : Int64} {L : List Int32} {Os : Nat → List Pf} {Q : cS → Nat → Nat → Prop}
theorem c_tkp {Q : Int32 → cS → Nat → Nat → Prop} {b cap i e : Nat} (kA : (s.K A).1 = 6) (hf : f = 0 ∨ f = 1) (i44 : s.I 44 A = fam (nI f)) (p40 : s.P 40 A = some b) (kb : (s.K b).1 = 3) (hb : BL s b 129 L cap) (ke : (s.K e).1 = 18) (hi : i + 20 ≤ L.length) (k1 : peK (fun j => L.getD j 0) f i → ∀ s', s'.K = s.K → s'.P = s.P → fr [18] [] [] s s' → PF s' e (fam (nI f)) (peH (fun j => L.getD j 0) f i) (peL (fun j => L.getD j 0) f i) (peN (fun j => L.getD j 0) f i) → Q 1 s' kc ks) (k0 : ¬ peK (fun j => L.getD j 0) f i → ∀ s', s'.K = s.K → s'.P = s.P → fr [18] [] [] s s' → Q 0 s' kc ks) : C_Da_takePrefix sa A (nI i) (some e) s kc ks Q := by
  rcases hf with rfl | rfl
  · exact c_tk4 kA i44 p40 kb hb ke hi k1 k0
  · exact c_tk6 kA i44 p40 kb hb ke hi k1 k0
theorem m_e98 {q lk X n' : Int32} (hN : mN t) (hI : IN t L) (hB : ∀ j, L.getD j 0 = nI (vc L j)) (he : e + 20 ≤ 600) (hf : f = 0 ∨ f = 1) : M_takeAll_b98 t q (nI f) h l (nI r) lk X ha la n' (nI e) = M_takeAll_b128 t q (nI f) h l (nI r) lk X ha la n' (nI e) (meF (fun j => L.getD j 0) f e) := by
  unfold M_takeAll_b98
  rcases hf with rfl | rfl
  · have e4 : M_number4 t 149 (nI (e + 16)) = some (meF (fun j => L.getD j 0) 0 e) := by
      have g := fun j (hj : j < 700) => (hI.2 j hj).trans (hB j)
      rw [m_num4 (N := 700) (hN.n 149 700) (by omega) (by decide) (g _ (by omega)) (g _ (by omega)) (g _ (by omega)) (g _ (by omega)) (vc_b _ _) (vc_b _ _) (vc_b _ _) (vc_b _ _)]
      unfold meF
      rw [if_pos rfl, nb_L hB]
    rw [if_pos (show nI 0 = 0 from rfl), show (16 : Int32) = nI 16 from rfl, nI_add, e4]
    rfl
  · rw [if_neg (show ¬ nI 1 = 0 by decide), show (19 : Int32) = nI 19 from rfl, nI_add, rdI_n (n := 700) (hN.n 149 700) (by omega) (by decide), hI.2 _ (by omega)]
    rfl
theorem c_entry (hR : RR G H sa x s t) (hM : MV t) (hAg : AGs t) (hE : EX Os t) (hO : ∀ r, (Os r).length ≤ 760) (hr : r < cR t) (hp : p < cI t r) (hH : HE H s A L f h l po ho) (hI : IN t L) (hB : ∀ j, L.getD j 0 = nI (vc L j)) (he : e + 20 ≤ L.length) (hop : PF s (H 239 x) (fam (nI f)) (gtH t (2 * (4 * r + p) + f) (if f = 0 then hiF (fun j => L.getD j 0) (e + 12) 0 else ha) la h) (gtL t (2 * (4 * r + p) + f) (if f = 0 then hiF (fun j => L.getD j 0) (e + 12) 0 else ha) la l) gn) (hkc : potC G r ≤ kc) (hks : potS s G H r ≤ ks) (kk : EnK G H sa x Os s t r (M_takeAll_b98 t (nI (4 * r + p)) (nI f) h l (nI r) (t.I 71 (4 * r + p)) (nI (2 * (4 * r + p) + f)) ha la (nI n) (nI e)) ha la f n kc ks Q) : C_Rr_hearEntry sa (G 1 r) (some A) (nI e) (some (G 2 (4 * r + p))) s kc ks Q := by
  have hH' := hH
  obtain ⟨kA, hb, hPF, ⟨i44, i45, i46⟩, hf⟩ := hH
  have hl6 : L.length ≤ 600 := by obtain ⟨-, -, d, -, -, -, e, -⟩ := hb; exact e
  have hq := hR.q.1
  have hT := hq.ty
  have hN := hM.1.1
  obtain ⟨⟨o9, p180, o11, -⟩, ⟨o4, k8, p80, hlk, e71, -⟩, -⟩ := px_of hR hM hr hp
  generalize (t.I 71 (4 * r + p)).toNatClampNeg = lk at p80 hlk e71
  have kx := hq.1.1
  have p238 := hT.p kx 238 18
  have p239 := hT.p kx 239 39
  have p40 := hT.p kA 40 3
  have i83 : s.I 83 (G 2 (4 * r + p)) = t.I 72 (4 * r + p) := (hq.po hr hp).2.2.2.1.1
  have r72 := ((hM.r hr).2.2.2.2.2.2.2.2.2.2.1 p hp).2.2.1
  rw [m_e98 hN hI hB (by omega) hf, e71] at kk
  have ent := m_entry (i := e) (hN.n 149 700) (by omega) (fun j _ _ => ⟨vc L j, vc_b L j, (hI.2 j (by omega)).trans (hB j)⟩) hf
  rw [pk_e (g' := fun j => L.getD j 0) hI.2 (by omega)] at ent
  obtain ⟨en1, en0⟩ := ent
  -- behind the prefix
  have aft : ∀ s1 t1, s1.K = s.K → s1.P = s.P → fr [18] [] [] s s1 → mfr [12, 13, 14, 15] t t1 → RR G H sa x s1 t1 ∧ MV t1 ∧ AGs t1 ∧ EX Os t1 := fun s1 t1 eK eP f1 m1 => by
    have M1 : MV t1 := hM.fr m1 rfl (hM.1.fr m1 rfl)
    exact ⟨rr_fr hR hM (hq.1.v eK eP f1 rfl rfl rfl) f1 m1 rfl rfl rfl rfl rfl rfl rfl, M1, hAg.m m1 (by decide), hE.of hM M1 (by unfold cR; rw [m1.S 37 (by decide)]) (fun _ _ => sEq.m m1 rfl) (fun _ _ z => by rw [m1.I 39 (by decide)] at z; exact z)⟩
  have bad : ∀ s1 t1, s1.K = s.K → s1.P = s.P → fr [18] [] [] s s1 → mfr [12, 13, 14, 15] t t1 → M_takeAll_b128 t (nI (4 * r + p)) (nI f) h l (nI r) (nI lk) (nI (2 * (4 * r + p) + f)) ha la (nI n) (nI e) (meF (fun j => L.getD j 0) f e) = tlO t1 r ha la (nI n) → C_Rr_hearEntry_b64 sa (G 1 r) s1 kc ks Q := fun s1 t1 eK eP f1 m1 eM => by
    obtain ⟨R1, M1, A1, E1⟩ := aft s1 t1 eK eP f1 m1
    have hr1 : r < cR t1 := by unfold cR; rw [m1.S 37 (by decide)]; exact hr
    unfold tlO at eM
    rw [m_tly M1 hr1 (by decide)] at eM
    unfold C_Rr_hearEntry_b64
    refine w_tly (i := 4) R1.q.1 hr1 (by decide) ?_
    obtain ⟨R2, M2⟩ := rr_cnt (i := 4) (v := t1.I 45 (11 * r + 4) + 1) R1 M1 hr1 (by decide)
    have f2 := tl_fr (i := 4) R1.q.1 hr1
    refine kk G H _ _ ha kc ks (eM.trans ?_) (fun _ => rfl) R2 M2 (tl_ag A1) (tl_ex E1 M1 M2) ((m1.wk (by decide)).tr (tl_m.wk (by decide))) (fun _ _ _ => rfl) (fun _ _ => rfl) hA.rf (f1.wk.tr f2.wk) (fun b g _ _ _ => by show s1.P g b = _; rw [eP]) (Nat.le_refl _) ?_
    · show some (Sum.inl (ha, la, nI n + 1, tlM t1 r 4)) = _
      rw [nI_1]
      rfl
    · unfold potS cpT
      rw [show (tlC s1 G H t1 r 4).P = s.P from eP, show (tlC s1 G H t1 r 4).K = s.K from eK]
      exact Nat.le_refl _
  unfold C_Rr_hearEntry
  refine ⟨_, gd_to o9, _, p180, _, gd_to o11, A, rfl, okr kA 2, w_met kA hf i44 p40.1 p40.2 hb he ⟨okr kA 2, ?_⟩⟩
  rw [show s.P (20 * 11 + 18) x = some (H 238 x) from p238.1]
  refine c_tkp kA hf i44 p40.1 p40.2 hb p238.2 he (fun cK s1 eK eP f1 pf => ifF (by decide) ?_) (fun cK s1 eK eP f1 => ifT rfl ?_)
  rotate_left
  · obtain ⟨t1, u1, m1⟩ := en0 cK
    refine bad s1 t1 eK eP f1 m1 ?_
    unfold M_takeAll_b128
    rw [u1, bn2_s, if_pos rfl]
    exact m_eA
  obtain ⟨t1, u1, m1, v12, v13, v14, v15⟩ := en1 cK
  obtain ⟨y1, y2, y3⟩ := pe_e (f := f) (g' := fun j => L.getD j 0) (i := e) hI.2 (by omega)
  rw [y2] at v13
  rw [y3] at v14
  rw [y1] at v15
  have lo := pe_ok hB hf cK
  have eM0 : M_takeAll_b128 t (nI (4 * r + p)) (nI f) h l (nI r) (nI lk) (nI (2 * (4 * r + p) + f)) ha la (nI n) (nI e) (meF (fun j => L.getD j 0) f e) = if meF (fun j => L.getD j 0) f e < 1 then tlO t1 r ha la (nI n) else if 16 < meF (fun j => L.getD j 0) f e then tlO t1 r ha la (nI n) else if M_isForbidden (nI f) (t1.Z 13) (t1.S 15) = 0 then M_takeAll_b176 t1 (nI (4 * r + p)) (nI f) h l (nI r) (nI lk) (nI (2 * (4 * r + p) + f)) ha la (nI n) (nI e) (meF (fun j => L.getD j 0) f e) 1 else tlO t1 r ha la (nI n) := by
    unfold M_takeAll_b128
    rw [u1, bn2_s, if_neg (by decide), m_eA]
  by_cases c1 : meF (fun j => L.getD j 0) f e < 1
  · exact ifT c1 (bad s1 t1 eK eP f1 m1 (by rw [eM0, if_pos c1]))
  rw [if_neg c1] at eM0
  refine ifF c1 ?_
  by_cases c2 : (16 : Int64) < meF (fun j => L.getD j 0) f e
  · exact ifT c2 (bad s1 t1 eK eP f1 m1 (by rw [eM0, if_pos c2]))
  rw [if_neg c2] at eM0
  obtain ⟨R1, M1, A1, E1⟩ := aft s1 t1 eK eP f1 m1
  have q1 := R1.q.1
  have hr1 : r < cR t1 := by unfold cR; rw [m1.S 37 (by decide)]; exact hr
  have hp1 : p < cI t1 r := by unfold cI; rw [m1.I 70 (by decide)]; exact hp
  have hlk1 : lk < cL t1 := by unfold cL; rw [m1.S 17 (by decide)]; exact hlk
  have ok : ∀ {c b}, okO s c b → okO s1 c b := fun {c b} z => by unfold okO at z ⊢; rw [eK]; exact z
  have o51 : okO s1 5 (H 238 x) := ok (okr p238.2 5)
  have g80 : s1.P 80 (G 2 (4 * r + p)) = some (G 0 lk) := by rw [eP]; exact p80
  have lo1 : lnOk (nI f) (t1.S 15) := by rw [v15]; exact lo
  refine ifF c2 ⟨_, rfl, o51, w_forb o51 hf pf (fun c3 => ifF (by decide) ?_) (fun c3 => ifT rfl ?_)⟩
  · refine bad s1 t1 eK eP f1 m1 ?_
    rw [eM0, v13, v15, if_neg c3]
  rw [v13, v15, if_pos c3, m_eB M1 hr1 lo1, v13, v14, v15] at eM0
  refine ⟨_, rfl, _, gd_to (ok o4), ok o9, ?_⟩
  rw [show s1.P (20 * 4 + 0) (G 2 (4 * r + p)) = some (G 0 lk) from g80]
  refine w_refuses (w := 0) q1 M1 hr1 hlk1 (by decide) lo pf o51 (fun c4 => ifF (by decide) ?_) (fun c4 c5 => ifT rfl ?_)
  · refine bad s1 t1 eK eP f1 m1 ?_
    rw [eM0, if_pos c4]
  have hI1 : IN t1 L := hI.fr m1 rfl
  rw [if_neg (fun z => z.elim c4 c5), m_eC M1 hr1 hp1 hI1 hB (by omega) hf lo1, v13, v14, v15, (gt_fr m1 rfl).1, (gt_fr m1 rfl).2] at eM0
  refine ⟨_, gd_to (ok o4), _, gd_to (ok o4), ok o9, ?_⟩
  have j83 : s1.I 83 (G 2 (4 * r + p)) = t1.I 72 (4 * r + p) := by rw [(f1.v k8 (by decide)).1, m1.I 72 (by decide)]; exact i83
  rw [show s1.P (20 * 4 + 0) (G 2 (4 * r + p)) = some (G 0 lk) from g80, show s1.I (20 * 4 + 3) (G 2 (4 * r + p)) = t1.I 72 (4 * r + p) from j83]
  refine w_raised (w := 0) q1 M1 hr1 hlk1 lo pf o51 ?_
  have hop1 := hop.fr f1 p239.2 (by decide)
  have hH1 : HE H s1 A L f h l po ho := hH'.hx (hdX.fr f1 hT kA rfl (nin6 rfl) (by decide)) (by rw [eK]; exact kA)
  have rm : rng (mn16 (Int64.toInt32 (meF (fun j => L.getD j 0) f e) + t1.I 72 (4 * r + p) + ofV t1 r 0 (nI lk) (nI f) (peH (fun j => L.getD j 0) f e) (peL (fun j => L.getD j 0) f e) (peN (fun j => L.getD j 0) f e))) 1 16 := by
    obtain ⟨a, a1, a2, a3⟩ := me_ok hB c1 c2
    obtain ⟨b, b1, b2, b3⟩ := r72
    obtain ⟨c, d1, d2, d3⟩ := ofV_r (f := nI f) (w := 0) (lk := nI lk) (n := peN (fun j => L.getD j 0) f e) (h := peH (fun j => L.getD j 0) f e) (lo := peL (fun j => L.getD j 0) f e) M1 hr1
    rw [a1, m1.I 72 (by decide), b1, d1, nI_add, nI_add]
    exact mn16_2 rfl (by omega) (by omega)
  generalize mn16 (Int64.toInt32 (meF (fun j => L.getD j 0) f e) + t1.I 72 (4 * r + p) + ofV t1 r 0 (nI lk) (nI f) (peH (fun j => L.getD j 0) f e) (peL (fun j => L.getD j 0) f e) (peN (fun j => L.getD j 0) f e)) = metric at rm eM0 ⊢
  generalize hgh : gtH t (2 * (4 * r + p) + f) (if f = 0 then hiF (fun j => L.getD j 0) (e + 12) 0 else ha) la h = gh at hop1 eM0
  generalize hgl : gtL t (2 * (4 * r + p) + f) (if f = 0 then hiF (fun j => L.getD j 0) (e + 12) 0 else ha) la l = gl at hop1 eM0
  have m2 : mfr [164, 165] t1 (moSZ (moSZ t1 164 gh) 165 gl) := (mfr.sz (by decide)).tr (mfr.sz (by decide))
  have M2 : MV (moSZ (moSZ t1 164 gh) 165 gl) := M1.fr m2 rfl (M1.1.fr m2 rfl)
  have R2 : RR G H sa x s1 (moSZ (moSZ t1 164 gh) 165 gl) := rr_fr R1 M1 q1.1 (fr.rf (Rv := []) (Gp := []) (Rq := [])) m2 rfl rfl rfl rfl rfl rfl rfl
  have E2 : EX Os (moSZ (moSZ t1 164 gh) 165 gl) := E1.of M1 M2 rfl (fun _ _ => sEq.m m2 rfl) (fun _ _ z => z)
  have A2 : AGs (moSZ (moSZ t1 164 gh) 165 gl) := A1.m m2 (by decide)
  have z164 : (moSZ (moSZ t1 164 gh) 165 gl).Z 164 = gh := by rw [moSZ_n (by decide), moSZ_s]
  have z165 : (moSZ (moSZ t1 164 gh) 165 gl).Z 165 = gl := moSZ_s
  have z13 : (moSZ (moSZ t1 164 gh) 165 gl).Z 13 = peH (fun j => L.getD j 0) f e := by rw [moSZ_n (by decide), moSZ_n (by decide)]; exact v13
  have z14 : (moSZ (moSZ t1 164 gh) 165 gl).Z 14 = peL (fun j => L.getD j 0) f e := by rw [moSZ_n (by decide), moSZ_n (by decide)]; exact v14
  have z15 : (moSZ (moSZ t1 164 gh) 165 gl).S 15 = peN (fun j => L.getD j 0) f e := v15
  have p186 := q1.ty.p (q1.rt hr1).1.1 186 27
  have kq : LrK G H sa x Os s1 (moSZ (moSZ t1 164 gh) 165 gl) r (M_learn (moSZ (moSZ t1 164 gh) 165 gl) (nI r) (nI (4 * r + p)) (nI f) metric (tgF (fun j => L.getD j 0) f e) h l) kc ks Q := by
    intro G' H' s' t' kc' ks' b1 b2 b3 b4 b5 b6 b7 b8 b9 b10 b11 b12 b13
    have eo : M_takeAll_b128 t (nI (4 * r + p)) (nI f) h l (nI r) (nI lk) (nI (2 * (4 * r + p) + f)) ha la (nI n) (nI e) (meF (fun j => L.getD j 0) f e) = some (Sum.inl (if f = 0 then hiF (fun j => L.getD j 0) (e + 12) 0 else ha, la, nI (n + 1), t')) := by
      rw [eM0]
      unfold lnO
      rw [b1]
      simp only [Option.bind_some]
      rw [nI_1]
    have mm : mfr Wle t t' := (m1.wk (by decide)).tr ((m2.wk (by decide)).tr (b6.1.wk (by decide)))
    have pp : ks + potS s' G' H' r ≤ ks' + potS s G H r := by
      unfold potS cpT at b13 ⊢
      rw [eP, eK] at b13
      exact b13
    exact kk G' H' s' t' _ kc' ks' eo (fun z => if_neg z) b2 b3 b4 b5 mm b7 b8 (fun g a ha' => b9 g a (by rw [eK]; exact ha')) (f1.wk.tr b10) (fun b g h1 h2 h3 => (b11 b g h1 (by rw [eK]; exact h2) h3).trans (by rw [eP])) b12 pp
  have cl := c_learn (Q := Q) (kc := kc) (ks := ks) (i := e) R2 M2 A2 E2 hO hr1 hp1 rm hH1 hB (by omega) hop1 z164 z165 lo pf z13 z14 z15 hkc (by unfold potS cpT at hks ⊢; rw [eP, eK]; exact hks) kq
  unfold lnC at cl
  refine ⟨_, gd_to (ok o9), _, ?_, cl⟩
  show s1.P 186 (G 1 r) = _
  exact p186.1
end Ey
