/-! Lines: router, both sides. -/
section Px
variable {G H : Nat → Nat → Nat} {sa : Nat → Nat} {rd x kc ks : Nat} {s : cS} {t : moS} {l : List Int32} {ws : List (Nat × Nat)}
theorem P_router (h : LX G H sa x rd s t l ws) (hkc : 64 ≤ kc) (hks : 1200 ≤ ks) : LG G H sa x s t kc ks (M_lineRouter t) (C_Re_routerLine sa rd s kc ks) := by
  have no : ∀ r, M_lineRouter t = some (r, t) → (∀ Q : Int32 → cS → Nat → Nat → Prop, Q r s kc ks → C_Re_routerLine sa rd s kc ks Q) → LG G H sa x s t kc ks (M_lineRouter t) (C_Re_routerLine sa rd s kc ks) := fun r e k => (LO.no h r e (fun Q kq => k Q (kq s ⟨rfl, rfl, rfl, rfl, rfl, fun _ _ _ => rfl⟩))).g
  obtain ⟨-, ⟨o1, o2⟩, ⟨p1, p2⟩, -⟩ := id h.rc
  have hw := h.nw
  by_cases c2 : ws.length = 2
  rotate_left
  · have ne : ¬ nI ws.length = (2 : Int32) := fun z => c2 ((nI_eq (b := 2) (by omega) (by decide)).mp z)
    refine no 2 ?_ fun Q kq => ?_
    · unfold M_lineRouter
      rw [h.ww, if_neg ne]
    · unfold C_Re_routerLine
      refine ⟨_, gd_to o1, ?_⟩
      rw [show s.I (20 * 7 + 3) rd = nI ws.length from h.wt]
      exact ifF ne kq
  have e2 : nI ws.length = (2 : Int32) := by rw [c2]; rfl
  have em : M_lineRouter t = if wM l ws 1 = 0 then some (3, t) else if oI (nmF (t.J 38) (wM l ws 1) (cR t) 0) = -1 then (if (moS.S t 37) = (6 : Int32) then some ((6 : Int32), t) else (Option.bind (wrJ t 38 (moS.S t 37) (wM l ws 1)) (fun s3 => (Option.bind (wrZ s3 39 (moS.S t 37) (1 : Int32)) (fun s4 => (Option.bind (wrI s4 40 (moS.S t 37) (30 : Int32)) (fun s5 => (Option.bind (wrI s5 41 (moS.S t 37) (180 : Int32)) (fun s6 => (Option.bind (wrI s6 42 (moS.S t 37) (120 : Int32)) (fun s7 => (Option.bind (wrI s7 43 (moS.S t 37) ((moS.S s7 1) + (30 : Int32))) (fun s8 => (Option.bind (wrI s8 44 (moS.S t 37) ((-1) : Int32)) (fun s9 => ((M_lineRouter_b114 s9 (moS.S t 37) ((2 : Int32) * (moS.S t 37))))))))))))))))))) else some (3, t) := by
    unfold M_lineRouter
    rw [h.ww, if_pos e2, show M_name t 1 = some (wM l ws 1) from h.name (i := 1) (by omega)]
    simp only [Option.bind_some, m_routerNamed h.mv]
  rcases wM_z h (i := 1) (by omega) with ⟨z0, zn⟩ | ⟨znm, zl, za⟩
  · rw [if_pos z0] at em
    refine no 3 em fun Q kq => ?_
    unfold C_Re_routerLine
    refine ⟨_, gd_to o1, ?_⟩
    rw [show s.I (20 * 7 + 3) rd = nI ws.length from h.wt]
    exact ifT e2 ⟨o1, w_isName h.rc (i := 1) (by decide) (fun _ _ z1 z2 => absurd ⟨z1, z2⟩ zn) (fun _ => ifT rfl kq)⟩
  rw [if_neg (nmL_n0 znm)] at em
  have ec : ∀ Q : Int32 → cS → Nat → Nat → Prop, (if Option.map (G 1) (nmF (t.J 38) (nmW (vc l) (ws.getD 1 (0, 0)).1 ((ws.getD 1 (0, 0)).2 - (ws.getD 1 (0, 0)).1)) (cR t) 0) = none then (ob (gP s 7 0 rd) (fun v4 => (ob v4 (fun b5 => (ob (gI s 11 9 b5) (fun v6 => (if v6 < (6 : Int32) then (ob (gP s 7 0 rd) (fun v7 => (ob v7 (fun b8 => (ob (gP s 11 8 b8) (fun v9 => (ob (gP s 7 0 rd) (fun v10 => (ob v10 (fun b11 => (ob (gI s 11 9 b11) (fun v12 => (nwO sa s kc ks 9 20 (fun q13 sq13 cq13 dq13 => (ob (gP sq13 7 0 rd) (fun v14 => (okO sq13 7 rd ∧ C_Re_nameAt sa rd (1 : Int32) sq13 cq13 dq13 (fun r15 sr15 cr15 dr15 => (ob (gP sr15 7 0 rd) (fun v16 => (ob v16 (fun b17 => (ob (gI sr15 11 9 b17) (fun v18 => (okO sr15 9 q13 ∧ C_Rr_init sa q13 v14 r15 v18 sr15 cr15 dr15 (fun sr19 cr19 dr19 => (ob v9 (fun b20 => (ob (wQ sr19 b20 v12 (some q13)) (fun s21 => (ob (gP s21 7 0 rd) (fun v22 => (ob v22 (fun b23 => (ob (gI s21 11 9 b23) (fun v24 => (ob (pI s21 11 9 b23 (v24 + (1 : Int32))) (fun s25 => (Q (0 : Int32) s25 cr19 dr19))))))))))))))))))))))))))))))))))))))) else (Q (6 : Int32) s kc ks)))))))) else Q 3 s kc ks) → C_Re_routerLine sa rd s kc ks Q := fun Q k => by
    unfold C_Re_routerLine
    refine ⟨_, gd_to o1, ?_⟩
    rw [show s.I (20 * 7 + 3) rd = nI ws.length from h.wt]
    exact ifT e2 ⟨o1, w_isName h.rc (i := 1) (by decide) (fun _ _ _ _ => ifF (by decide) ⟨o1, w_routerNamed h.q h.mv h.rc (i := 1) (by omega) (by decide) k⟩) (fun z => absurd ⟨by omega, by decide, zl, za⟩ z)⟩
  cases ea : nmF (t.J 38) (wM l ws 1) (cR t) 0 with
  | some i =>
    have hi := nmF_s ea
    have h6 : cR t ≤ 6 := h.mv.1.2.2.2.2.2.2.2.n.2.2
    rw [ea, if_neg (oI_n1 i (by omega))] at em
    refine no 3 em fun Q kq => ec Q ?_
    have ea' : nmF (t.J 38) (nmW (vc l) (ws.getD 1 (0, 0)).1 ((ws.getD 1 (0, 0)).2 - (ws.getD 1 (0, 0)).1)) (cR t) 0 = some i := ea
    rw [ea']
    exact ifF (by simp) kq
  | none =>
  have ea' : nmF (t.J 38) (nmW (vc l) (ws.getD 1 (0, 0)).1 ((ws.getD 1 (0, 0)).2 - (ws.getD 1 (0, 0)).1)) (cR t) 0 = none := ea
  rw [ea, if_pos (show oI none = -1 from rfl)] at em
  simp only [ea', Option.map_none, if_true] at ec
  obtain ⟨n, hnn⟩ : ∃ n, n = cR t := ⟨_, rfl⟩
  have e37 : t.S 37 = nI n := by rw [hnn]; exact h.mv.1.2.2.2.2.2.2.2.n.1
  have hn6 : n ≤ 6 := by rw [hnn]; exact h.mv.1.2.2.2.2.2.2.2.n.2.2
  have i229 : s.I (20 * 11 + 9) x = nI n := by rw [show s.I (20 * 11 + 9) x = t.S 37 from h.q.2.2.1.2.2.2.1]; exact e37
  by_cases n6 : n = 6
  · rw [e37, if_pos (by rw [n6]; rfl)] at em
    refine no 6 em fun Q kq => ec Q ⟨_, gd_to o1, _, p1, _, gd_to o2, ?_⟩
    rw [i229]
    exact ifF (by rw [n6]; decide) kq
  have h6 : n < 6 := by omega
  rw [if_neg (by rw [e37]; exact fun z => n6 ((nI_eq (b := 6) (by omega) (by decide)).mp z)), m_rt h.mv hnn h6] at em
  refine ⟨0, _, em, mv_rt h.mv hnn h6 ⟨_, znm⟩, mRt_e.1.wk (by decide), fun Q kq => ec Q ⟨_, gd_to o1, _, p1, _, gd_to o2, ?_⟩⟩
  rw [i229]
  refine ifT (nI_lt (b := 6) h6 (by decide)) ⟨_, gd_to o1, _, p1, _, gd_to o2, _, gd_to o1, _, p1, _, gd_to o2, ?_⟩
  rw [i229]
  have p228 := h.q.ty.r h.q.1.1 228 131 6
  refine hq_nwO (u := 26) hp_rf (by omega) (by omega) fun q sq hq => ?_
  have n1 : fr [] [] [] s sq := (hp_ex hq).fr (fun a ha => by
    simp only [List.map_cons, List.map_nil, List.mem_cons, List.not_mem_nil, or_false] at ha
    rw [ha]; exact (hq.2.1 _ List.mem_cons_self).2.1.1)
  have R1 := rdc_ext h.rc n1
  refine ⟨_, gd_to R1.2.1.1, R1.2.1.1, w_nameAt R1 (i := 1) (by omega) (by decide) zl za (by omega) (by omega) fun c z v s2 hc hz hv cz cv zv ex kc' kz kv htx kc2 ks2 hkc2 hks2 => ?_⟩
  rw [show sq.P (20 * 7 + 0) rd = some x from R1.2.2.1.1]
  have h3 := hp_3 hq ex hc hz hv cz cv zv (by rw [kc']; exact (show (117 : Nat) ≠ 0 by decide)) (by rw [kz]; decide) (by rw [kv]; exact (show (118 : Nat) ≠ 0 by decide))
  have R2 := rdc_ext R1 (ex.fr (fun a ha => by
    simp only [List.mem_cons, List.not_mem_nil, or_false] at ha
    rcases ha with rfl | rfl | rfl
    · exact hc.1
    · exact hz.1
    · exact hv.1))
  have ox := hp_old h3 o2.n0
  refine ⟨_, gd_to R2.2.1.1, _, R2.2.2.1.1, _, gd_to R2.2.1.2, ?_⟩
  rw [show s2.I (20 * 11 + 9) x = nI n from (ov_I ox 229).trans i229]
  have h3' := hp_mv (L1 := [_, _, _]) h3
  refine ⟨hp_o (L1 := []) h3' (by decide), hq_Rr (tm := t.S 1 + 30) h3' o2 (by rw [show s.I 225 x = t.S 1 from h.q.2.2.1.2.1]) (by omega) (by omega) fun A F yd yo L' s' kc3 ks3 hp hm d0 d1 d2 d3 d4 hk1 hk2 => ?_⟩
  have kq26 : s2.K q = (26, 0) := ov_K (h3.2.1 (q, ov0 (26, 0)) (by simp)).1
  have mL : ∀ p, p ∈ [(c, ov s2 c), (z, ov s2 z), (v, ov s2 v)] → p ∈ L' := fun p hp' => (hm p).mpr (Or.inr (Or.inr (Or.inr (by simpa using hp'))))
  have tr : ∀ a, (s2.K a).1 ≠ 0 → a ≠ q → ov s' a = ov s2 a := fun a h1 h2 => hp_two h3 hp (fun p hp2 => by
    simp only [List.mem_cons, List.not_mem_nil, or_false] at hp2
    rcases hp2 with e | e | e | e
    · exact Or.inl (mL p (by simp [e]))
    · exact Or.inl (mL p (by simp [e]))
    · exact Or.inl (mL p (by simp [e]))
    · exact Or.inr (by rw [e])) h1 h2
  have htx' : isTx sa s' z (wU (vc l) (ws.getD 1 (0, 0)).1 ((ws.getD 1 (0, 0)).2 - (ws.getD 1 (0, 0)).1)) := by
    rcases htx with ⟨t1, t2, v', t3, t4, t5, t6⟩ | ⟨t1, _⟩
    · have zq : z ≠ q := fun e => by rw [e, kq26] at t1; exact absurd t1 (by decide)
      have vq : v' ≠ q := fun e => by rw [e, kq26] at t4; exact absurd (congrArg Prod.fst t4) (show ¬ (26 : Nat) = 118 by decide)
      have y1 := tr z (by rw [t1]; decide) zq
      have y2 := tr v' (by rw [t4]; exact (show (118 : Nat) ≠ 0 by decide)) vq
      exact Or.inl ⟨by rw [ov_K y1]; exact t1, (ov_I y1 261).trans t2, v', (ov_P y1 260).trans t3, (ov_K y2).trans t4, t5, fun i hi => (congrFun (ov_E y2) i).trans (t6 i hi)⟩
    · rw [kz] at t1; exact absurd t1 (by decide)
  have hL : ∀ p, p ∈ [(c, ov s2 c), (z, ov s2 z), (v, ov s2 v)] ++ [] → 100 ≤ p.2.1.1 ∧ p.2.1.1 ≠ 103 ∨ p.2.1.1 = 31 := fun p hp' => by
    simp only [List.append_nil, List.mem_cons, List.not_mem_nil, or_false] at hp'
    rcases hp' with rfl | rfl | rfl
    · exact Or.inl (by show 100 ≤ (s2.K c).1 ∧ (s2.K c).1 ≠ 103; rw [kc']; exact ⟨show 100 ≤ 117 by decide, show (117 : Nat) ≠ 103 by decide⟩)
    · exact Or.inr (by show (s2.K z).1 = 31; rw [kz])
    · exact Or.inl (by show 100 ≤ (s2.K v).1 ∧ (s2.K v).1 ≠ 103; rw [kv]; exact ⟨show 100 ≤ 118 by decide, show (118 : Nat) ≠ 103 by decide⟩)
  obtain ⟨R3, f3⟩ := rt_new (z := z) h.1 h.mv hp hm hL d0 d1 d2 d3 d4 hnn
  have hN := rt_N (c := wM l ws 1) h.1 hp hm d0 hnn htx' znm
  have fin := rt_rr R3 h.mv hnn h6 hN
  have fre : ∀ {a : Nat} {w : Ov}, (a, w) ∈ L' → (s.K a).1 = 0 := fun hw' => (hp.2.1 _ hw').2.1.1
  have hh : hA H (rtH H x z (sa 3) q A F) s := fun g a ha => by
    unfold rtH
    rw [if_neg (fun e => ha (by rw [e]; exact fre ((hm (q, rrV A (some x) (some z) (nI n) (t.S 1 + 30))).mpr (Or.inl (by simp))))), if_neg (fun e => ha (by rw [e]; exact fre ((hm (F 0, fiV sa (F 1) (F 2) (F 3) (F 4))).mpr (Or.inl (by simp))))), if_neg (fun e => ha (by rw [e]; exact fre ((hm (F 5, fiV sa (F 6) (F 7) (F 8) (F 9))).mpr (Or.inl (by simp)))))]
  rw [show rtG G n q A F 1 n = q from if_pos ⟨rfl, rfl⟩, hh 228 x o2.n0] at fin
  have hx0 : (s.K x).1 ≠ 0 := o2.n0
  have o11 : okO s' 11 x := by unfold okO at o2 ⊢; rw [(f3 x hx0).1]; exact o2
  have o7 : okO s' 7 rd := by
    have := (f3 rd o1.n0).1
    unfold okO at o1 ⊢
    rw [this]; exact o1
  have k228 : s'.K (H 228 x) = (131, 6) := by rw [(f3 (H 228 x) (by rw [p228.2]; decide)).1]; exact p228.2
  have kq' : s'.K q = (26, 0) := ov_K (hp.2.1 (q, rrV A (some x) (some z) (nI n) (t.S 1 + 30)) ((hm _).mpr (Or.inl (by simp)))).1
  have i229' : s'.I (20 * 11 + 9) x = nI n := (((f3 x hx0).2.1 (by simp)).1 229).trans i229
  refine ⟨_, p228.1, _, gd_to ⟨⟨by rw [k228]; decide, by rw [k228]; decide, by rw [k228]; exact vp_in_nI h6 (by decide)⟩, by rw [k228]; decide, fun b' hb' => by cases hb'; rw [k228]; exact (show okO s' 9 q by unfold okO; rw [kq']; decide)⟩, ?_⟩
  rw [nI_clamp (by omega)]
  refine ⟨_, gd_to o7, _, ((f3 rd o1.n0).2.2.1 140 (by simp)).trans p1, _, gd_to o11, ?_⟩
  rw [show (cSQ s' (H 228 x) n (some q)).I (20 * 11 + 9) x = nI n from i229']
  dsimp only
  rw [nI_1]
  exact ⟨_, gd_to o11, kq _ _ _ _ _ fin.1 (gA_rt hnn) hh (f3.wk.tr fin.2.wk) (by omega) (by omega)⟩
end Px
