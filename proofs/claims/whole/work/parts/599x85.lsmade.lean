/-! Lines: list. -/
section Pt
variable {G H : Nat → Nat → Nat} {sa : Nat → Nat} {rd x kc ks : Nat} {s : cS} {t : moS} {l : List Int32} {ws : List (Nat × Nat)}
theorem own_ge : M_own 285 = 1 := by
  unfold M_own M_own_b34
  rw [if_neg (by decide), if_neg (by decide), if_neg (by decide), if_neg (by decide)]
theorem own_le : M_own 485 = 1 := by
  unfold M_own M_own_b34
  rw [if_neg (by decide), if_neg (by decide), if_neg (by decide), if_neg (by decide)]
theorem rdc_30 {s1 : cS} (h : RdC H x rd s l ws) (f : fr [30] [] [132] s s1) (hr : (s.K rd).1 = 22) (h1 : (s.K (H 220 x)).1 = 1) : RdC H x rd s1 l ws := by
  obtain ⟨⟨cap, hb⟩, ⟨o1, o2⟩, ⟨p1, p2⟩, ⟨z1, z2⟩, ⟨y1, y2⟩, ⟨w1, w2⟩, w3⟩ := h
  have hk : ∀ {a u n : Nat}, s.K a = (u, n) → u ≠ 0 → (s.K a).1 ≠ 0 := fun e hu => by rw [e]; exact hu
  have oo : ∀ {c a : Nat}, okO s c a → okO s1 c a := fun {c a} ho => by
    have := (f a ho.n0).1
    unfold okO at ho ⊢
    rw [this]; exact ho
  have fp := fun a (ha : (s.K a).1 ≠ 0) g => (f a ha).2.2.1 g (by simp)
  refine ⟨⟨cap, hb.fr f h1 (by decide) (by decide) (by decide)⟩, ⟨oo o1, oo o2⟩, ⟨?_, ?_⟩, ⟨?_, ?_⟩, ⟨?_, ?_⟩, ⟨?_, fun j h1 h2 => ?_⟩, w3⟩
  · rw [fp rd o1.n0]; exact p1
  · rw [fp x o2.n0]; exact p2
  · rw [fp rd o1.n0]; exact z1
  · rw [(f _ (hk z2 (by decide))).1]; exact z2
  · rw [fp rd o1.n0]; exact y1
  · rw [(f _ (hk y2 (by decide))).1]; exact y2
  · rw [((f rd o1.n0).2.1 (by rw [hr]; decide)).1]; exact w1
  · rw [((f _ (hk z2 (by decide))).2.1 (by rw [z2]; decide)).2.2, ((f _ (hk y2 (by decide))).2.1 (by rw [y2]; decide)).2.2]; exact w2 j h1 h2
theorem gA_3 {n lk : Nat} (h : cS' t ≤ n) : gA G (upG G 3 n lk) t := ⟨fun i hi => upG_n (by omega), fun r hr => ⟨upG_n (by omega), fun p hp => ⟨upG_n (by omega), fun k hk => upG_n (by omega)⟩, ⟨upG_n (by omega), fun j hj => upG_n (by omega)⟩, ⟨upG_n (by omega), upG_n (by omega)⟩, ⟨upG_n (by omega), fun j hj => upG_n (by omega), fun j hj => upG_n (by omega)⟩, fun k hk => ⟨upG_n (by omega), upG_n (by omega)⟩⟩, fun i hi => upG_n (by omega), fun i => upG_n (by omega), fun i => upG_n (by omega), upG_n (by omega), fun i => upG_n (by omega)⟩
theorem ls_made (L : LX G H sa x rd s t l ws) {n m : Nat} {f : Int32} {a b : Int64} {R : Int32 → Nat → cS → Nat → Nat → Prop} (hl : 4 ≤ ws.length) (hnn : cS' t = n) (hn8' : n < 8) (znm : nmL (wU (vc l) (ws.getD 1 (0, 0)).1 ((ws.getD 1 (0, 0)).2 - (ws.getD 1 (0, 0)).1)) (wM l ws 1)) (zl : (ws.getD 1 (0, 0)).2 - (ws.getD 1 (0, 0)).1 ≤ 12) (za : ∀ j, (ws.getD 1 (0, 0)).1 ≤ j → j < (ws.getD 1 (0, 0)).2 → alC (vc l j)) (hpf : PF s (H 146 rd) (fam f) a b (nI m)) (hkc : 62 ≤ kc) (hks : 1190 ≤ ks) (k : ∀ lk H' s15 kc' ks', LX (upG G 3 n lk) H' sa x rd s15 (mLs t n (wM l ws 1)) l ws → PF s15 (H' 146 rd) (fam f) a b (nI m) → hA H H' s → fr [30] [] [132] s s15 → kc ≤ kc' + 60 → ks ≤ ks' + 1180 → R (nI n) rd s15 kc' ks') : ob (gP s 11 10 x) (fun v6 => (nwO sa s kc ks 6 6 (fun q7 sq7 cq7 dq7 => (okO sq7 7 rd ∧ C_Re_nameAt sa rd (nI 1) sq7 cq7 dq7 (fun r8 sr8 cr8 dr8 => (okO sr8 6 q7 ∧ C_Pl_init sa q7 r8 (nI 16) sr8 cr8 dr8 (fun sr9 cr9 dr9 => (ob v6 (fun b10 => (ob (wQ sr9 b10 (nI n) (some q7)) (fun s11 => (ob (gP s11 7 0 rd) (fun v12 => (ob v12 (fun b13 => (ob (gI s11 11 11 b13) (fun v14 => (ob (pI s11 11 11 b13 (v14 + (1 : Int32))) (fun s15 => R (nI n) rd s15 cr9 dr9))))))))))))))))))) := by
  have e27 : t.S 27 = nI n := by rw [← hnn]; exact L.mv.1.2.2.2.2.2.2.1.n.1
  obtain ⟨mm, e27', e28'⟩ := mLs_e (t := t) (n := n) (c := wM l ws 1)
  have mvL := mv_ls (c := wM l ws 1) L.mv hnn.symm hn8' ⟨_, znm⟩
  obtain ⟨-, ⟨o1, o2⟩, ⟨p1, p2⟩, -⟩ := id L.rc
  obtain ⟨y1, y2, y3, y4, y5⟩ := L.px
  have p230 := L.q.ty.r L.q.1.1 230 132 8
  refine ⟨_, gd_to o2, by omega, by omega, 20, by decide, fun lk hlk => ?_⟩
  have n1 : fr [] [] [] s (cNw s lk (20, 0)) := fr.nw hlk.1
  have R1 := rdc_ext L.rc n1
  refine ⟨R1.2.1.1, w_nameAt R1 (i := 1) (by omega) (by decide) zl za (by omega) (by omega) fun c z v s3 hc hz hv cz cv zv ex kc' kz kv htx kc2 ks hkc2 hks => ?_⟩
  have un : ∀ {a : Nat}, cFr sa (cNw s lk (20, 0)) a → a ≠ lk ∧ cFr sa s a := fun {a} ha => by
    have hne : a ≠ lk := fun e => by have := ha.1; rw [e, cNw_ks] at this; exact absurd this (by decide)
    exact ⟨hne, by have := ha.1; rw [cNw_kn hne] at this; exact this, ha.2⟩
  have hc' := un hc
  have hz' := un hz
  have hv' := un hv
  have lkn : lk ∉ [c, z, v] := by
    simp only [List.mem_cons, List.not_mem_nil, or_false, not_or]
    exact ⟨fun e => hc'.1 e.symm, fun e => hz'.1 e.symm, fun e => hv'.1 e.symm⟩
  have klk : s3.K lk = (20, 0) := ((ex lk lkn).1).trans cNw_ks
  have olk : okO s3 6 lk := by unfold okO; rw [klk]; decide
  refine ⟨olk, w_PlI (n := 16) olk (by decide) (by decide) (by omega) (by omega) fun a1 a2 a3 a4 s4 h1 h2 h3 h4 n12 n13 n14 n23 n24 n34 ex4 k0 k1 k2 k3 k4 q0 q1 q2 q3 q4 i5 => ?_⟩
  have fresh : ∀ {a : Nat}, cFr sa s3 a → a ∉ [c, z, v] ∧ a ≠ lk ∧ cFr sa s a := fun {a} ha => by
    have hm : a ∉ [c, z, v] := by
      intro hm
      simp only [List.mem_cons, List.not_mem_nil, or_false] at hm
      have h0 := ha.1
      rcases hm with rfl | rfl | rfl
      · rw [kc'] at h0; exact absurd (show (117 : Nat) = 0 from h0) (by decide)
      · rw [kz] at h0; exact absurd h0 (by decide)
      · rw [kv] at h0; exact absurd (show (118 : Nat) = 0 from h0) (by decide)
    have hne : a ≠ lk := fun e => by have := ha.1; rw [e, klk] at this; exact absurd this (by decide)
    refine ⟨hm, hne, ?_, ha.2⟩
    have := ha.1
    rw [(ex a hm).1, cNw_kn hne] at this
    exact this
  have g1 := fresh h1
  have g2 := fresh h2
  have g3 := fresh h3
  have g4 := fresh h4
  have exT : exA [lk, c, z, v, a1, a2, a3, a4] s s4 := ((exA.nw (by simp)).tr (ex.wk (fun a ha => by simp only [List.mem_cons, List.not_mem_nil, or_false] at ha ⊢; omega))).tr (ex4.wk (fun a ha => by simp only [List.mem_cons, List.not_mem_nil, or_false] at ha ⊢; omega))
  have inN : ∀ {a : Nat}, a ∈ [c, z, v] → a ∉ [lk, a1, a2, a3, a4] := fun {a} ha hm => by
    simp only [List.mem_cons, List.not_mem_nil, or_false] at hm
    rcases hm with rfl | rfl | rfl | rfl | rfl
    · exact lkn ha
    · exact g1.1 ha
    · exact g2.1 ha
    · exact g3.1 ha
    · exact g4.1 ha
  have kc4 : s4.K c = (117, (ws.getD 1 (0, 0)).2 - (ws.getD 1 (0, 0)).1) := ((ex4 c (inN (by simp))).1).trans kc'
  have kz4 : s4.K z = (31, 0) := ((ex4 z (inN (by simp))).1).trans kz
  have kv4 : s4.K v = (118, (ws.getD 1 (0, 0)).2 - (ws.getD 1 (0, 0)).1) := ((ex4 v (inN (by simp))).1).trans kv
  have htx4 : isTx sa s4 z (wU (vc l) (ws.getD 1 (0, 0)).1 ((ws.getD 1 (0, 0)).2 - (ws.getD 1 (0, 0)).1)) := by
    rcases htx with ⟨t1', t2, v', t3, t4, t5, t6⟩ | ⟨t1', _⟩
    · have t4' := t4
      have vv : v' ∉ [lk, a1, a2, a3, a4] := fun hm => by
        simp only [List.mem_cons, List.not_mem_nil, or_false] at hm
        rcases hm with rfl | rfl | rfl | rfl | rfl
        · rw [klk] at t4; exact absurd (congrArg Prod.fst t4) (show ¬ (20 : Nat) = 118 by decide)
        · have := h1.1; rw [t4] at this; exact absurd (show (118 : Nat) = 0 from this) (by decide)
        · have := h2.1; rw [t4] at this; exact absurd (show (118 : Nat) = 0 from this) (by decide)
        · have := h3.1; rw [t4] at this; exact absurd (show (118 : Nat) = 0 from this) (by decide)
        · have := h4.1; rw [t4] at this; exact absurd (show (118 : Nat) = 0 from this) (by decide)
      obtain ⟨w1, w2, w3, w4, w5, w6⟩ := ex4 v' vv
      obtain ⟨x1, x2, x3, x4, x5, x6⟩ := ex4 z (inN (by simp))
      exact Or.inl ⟨by rw [x1]; exact t1', by rw [x2]; exact t2, v', by rw [x4]; exact t3, by rw [w1]; exact t4', t5, fun i hi => by rw [w5]; exact t6 i hi⟩
    · rw [kz] at t1'; exact absurd t1' (by decide)
  obtain ⟨R3, f3⟩ := ls_new (G := G) (H := H) (n := n) L.1 L.mv exT (fun a ha => by
    simp only [List.mem_cons, List.not_mem_nil, or_false] at ha
    rcases ha with rfl | rfl | rfl | rfl | rfl | rfl | rfl | rfl
    · exact hlk
    · exact hc'.2
    · exact hz'.2
    · exact hv'.2
    · exact g1.2.2
    · exact g2.2.2
    · exact g3.2.2
    · exact g4.2.2) (k0.trans klk) kc4 kz4 kv4 k1 k2 k3 k4 q1 q2 q3 q4 hnn.symm
  have eG : upG G 3 n lk 3 n = lk := if_pos ⟨rfl, rfl⟩
  have eH120 : upH H lk (lsF z a1 a2 a3 a4) 120 lk = z := (if_pos rfl).trans (if_pos rfl)
  have xlk : x ≠ lk := fun e => by have := hlk.1; rw [← e, L.q.1.1] at this; exact absurd this (by decide)
  have rlk : rd ≠ lk := fun e => by have := hlk.1; rw [← e] at this; exact o1.n0 this
  have eH230 : upH H lk (lsF z a1 a2 a3 a4) 230 x = H 230 x := if_neg xlk
  have fin := ls_rr (n := n) (c := wM l ws 1) R3 L.mv hnn.symm hn8' (by rw [eG, k0, klk]) (fun i hi e => by
    rw [eG] at e
    have hli := (L.q.2.2.2.2.1 i (show i < cS' t by omega)).1.1
    have : upG G 3 n lk 3 i = G 3 i := if_neg (by omega)
    rw [this] at e
    rw [e] at hli
    have := hlk.1
    rw [hli] at this
    exact absurd this (by decide)) (by rw [eG, eH120]; exact q0) (by rw [eG, eH120]; exact htx4) znm (by rw [eG]; exact i5)
  rw [eG, eH230] at fin
  have x3 : s4.K x = s.K x := (f3 x (by rw [L.q.1.1]; decide)).1
  have o11 : okO s4 11 x := okr (show (s4.K x).1 = 30 by rw [x3]; exact L.q.1.1) 11
  have hrd0 : (s.K rd).1 ≠ 0 := o1.n0
  have o7 : okO s4 7 rd := by unfold okO at o1 ⊢; rw [(f3 rd hrd0).1]; exact o1
  have k230 : s4.K (H 230 x) = (132, 8) := by rw [(f3 (H 230 x) (by rw [p230.2]; decide)).1]; exact p230.2
  have i231 : s4.I (20 * 11 + 11) x = nI n := by
    have := ((f3 x (by rw [L.q.1.1]; decide)).2.1 (by simp)).1 231
    rw [show s4.I (20 * 11 + 11) x = s.I 231 x from this, show s.I 231 x = t.S 27 from L.q.2.2.1.2.2.2.2]; exact e27
  refine ⟨_, p230.1, _, gd_to ⟨⟨by rw [k230]; decide, by rw [k230]; decide, by rw [k230]; exact vp_in_nI hn8' (by decide)⟩, by rw [k230]; decide, fun b' hb' => by cases hb'; rw [k230]; exact (show okO s4 6 lk by unfold okO; rw [k0, klk]; decide)⟩, ?_⟩
  rw [nI_clamp (by omega)]
  refine ⟨_, gd_to o7, _, (((f3 rd hrd0).2.2.1 140 (by simp))).trans p1, _, gd_to o11, ?_⟩
  rw [show (cSQ s4 (H 230 x) n (some lk)).I (20 * 11 + 11) x = nI n from i231]
  dsimp only
  rw [nI_1]
  refine ⟨_, gd_to o11, ?_⟩
  obtain ⟨s15, hs15⟩ : ∃ s15, cSI (cSQ s4 (H 230 x) n (some lk)) 231 x (nI (n + 1)) = s15 := ⟨_, rfl⟩
  rw [hs15] at fin
  show R (nI n) rd (cSI (cSQ s4 (H 230 x) n (some lk)) 231 x (nI (n + 1))) _ _
  rw [hs15]
  clear hs15 fresh g1 g2 g3 g4 inN un exT
  have hAs : hA H (upH H lk (lsF z a1 a2 a3 a4)) s := hA_up hlk.1
  have r22 : (s4.K rd).1 = 22 := by rw [(f3 rd hrd0).1]; exact L.2.2.1.2
  have p220 := L.q.ty.p L.q.1.1 220 1
  have eH220 : upH H lk (lsF z a1 a2 a3 a4) 220 x = H 220 x := if_neg xlk
  have Rx := rdc_30 (rdc_ext (rdc_gh L.rc hAs) f3) fin.2 r22 (by rw [eH220, (f3 (H 220 x) (by rw [p220.2]; decide)).1]; exact p220.2)
  have eH146 : upH H lk (lsF z a1 a2 a3 a4) 146 rd = H 146 rd := if_neg rlk
  have hx4 : (s4.K x).1 = 30 := by rw [x3]; exact L.q.1.1
  have k19 : (s4.K (H 146 rd)).1 = 19 := by rw [(f3 (H 146 rd) (by rw [y2]; decide)).1]; exact y2
  have hpf' : PF s15 (upH H lk (lsF z a1 a2 a3 a4) 146 rd) (fam f) a b (nI m) := by
    rw [eH146]
    exact (hpf.fr f3 y2 (by simp)).fr fin.2 k19 (by decide)
  have W2 : WX (mLs t n (wM l ws 1)) l ws := L.wx.mf mm rfl
  have LN : LX (upG G 3 n lk) (upH H lk (lsF z a1 a2 a3 a4)) sa x rd s15 (mLs t n (wM l ws 1)) l ws := by
    refine ⟨fin.1, mvL, ⟨?_, ?_⟩, Rx, W2.1, W2.2.1⟩
    · rw [(fin.2 x (by rw [hx4]; decide)).2.2.1 223 (by simp), (f3 x (by rw [L.q.1.1]; decide)).2.2.1 223 (by simp)]
      exact L.2.2.1.1
    · rw [(fin.2 rd (by rw [r22]; decide)).1]; exact r22
  exact k lk _ s15 _ _ LN hpf' hAs (f3.wk.tr fin.2) (by omega) (by omega)
end Pt
