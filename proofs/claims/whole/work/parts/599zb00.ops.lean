/-! The operations that make nothing but text keep the invariant. -/
section Io
variable {G H : Nat → Nat → Nat} {sa : Nat → Nat} {x n kc ks kc' ks' : Nat} {s s' : cS} {t t' : moS} {Os : Nat → List Pf} {E : List (Int32 × Int64)}
/-- the continuation of the class's call -/
def opQ (sa : Nat → Nat) (x n : Nat) (t : moS) (o : Option (Int32 × moS)) (r : Int32) (s' : cS) (kc' ks' : Nat) : Prop := ∃ t', o = some (r, t') ∧ midV (IVn sa) x n s' t t' kc' ks'
theorem cp_fr {Rv Rq : List Nat} {Gp : List (Nat × Nat)} (hR : RR G H sa x s t) (f : fr Rv Gp Rq s s') (d0 : (0, 1) ∉ Gp) (d : djp [(0, 32), (221, 30), (222, 30)] Gp) : cpA s' H x = cpA s H x := by
  unfold cpA
  rw [tp_st hR f d0, tx_st hR f d]
theorem op_n {o : Option (Int32 × moS)} {C : (Int32 → cS → Nat → Nat → Prop) → Prop} (h : vR sa x s t G H Os E) (hn : vN (n + 1) t Os E) (hC : vC (n + 1) x s t t G H kc ks) (hs : SO G H sa x t [0] o C (XN s kc ks)) : C (opQ sa x n t o) := by
  refine so_op hs fun r t' s' kc' ks' e M' m R' X => ⟨t', e, ?_⟩
  obtain ⟨rfl, rfl, rfl⟩ := X
  exact (iv_so h hn hC R' M' m (bt_m m (by decide)) (fr.rf (Rv := []) (Gp := []) (Rq := [])) (Nat.le_refl _) (Nat.le_refl _) rfl rfl rfl rfl rfl rfl rfl (by decide) rfl).mid
theorem O_now (h : IVn sa x (n + 1) s t kc ks) : C_Rf_now sa x s kc ks (opQ sa x n t (M_now t)) := by
  obtain ⟨G, H, Os, E, hr, hn, hC⟩ := h
  exact op_n hr hn hC (P_now hr.1 hr.2.1)
theorem O_fault (h : IVn sa x (n + 1) s t kc ks) : C_Rf_fault sa x s kc ks (opQ sa x n t (M_fault t)) := by
  obtain ⟨G, H, Os, E, hr, hn, hC⟩ := h
  exact op_n hr hn hC (P_fault hr.1 hr.2.1)
theorem O_flying (h : IVn sa x (n + 1) s t kc ks) : C_Rf_flying sa x s kc ks (opQ sa x n t (M_flying t)) := by
  obtain ⟨G, H, Os, E, hr, hn, hC⟩ := h
  exact op_n hr hn hC (P_flying hr.1 hr.2.1)
theorem O_routes (h : IVn sa x (n + 1) s t kc ks) (y : Int32) : C_Rf_routes sa x y s kc ks (opQ sa x n t (M_routes t y)) := by
  obtain ⟨G, H, Os, E, hr, hn, hC⟩ := h
  exact op_n hr hn hC (P_routes hr.1 hr.2.1 y)
theorem O_count (h : IVn sa x (n + 1) s t kc ks) (y z : Int32) : C_Rf_count sa x y z s kc ks (opQ sa x n t (M_count t y z)) := by
  obtain ⟨G, H, Os, E, hr, hn, hC⟩ := h
  exact op_n hr hn hC (P_count hr.1 hr.2.1 y z)
theorem O_lose (h : IVn sa x (n + 1) s t kc ks) (y z : Int32) : C_Rf_lose sa x y z s kc ks (opQ sa x n t (M_lose t y z)) := by
  obtain ⟨G, H, Os, E, hr, hn, hC⟩ := h
  refine so_op (P_lose hr.1 hr.2.1 y z) fun r t' s' kc' ks' e M' m R' X => ⟨t', e, ?_⟩
  obtain ⟨f, rfl, rfl⟩ := X
  have ec := cp_fr hr.1 f (by decide) rfl
  exact (iv_so hr hn hC R' M' m (bt_m m (by decide)) f (by rw [ec]; exact Nat.le_refl _) (by rw [ec]; exact Nat.le_refl _) rfl rfl rfl rfl rfl rfl rfl (by decide) rfl).mid
theorem ar_o1 {A k a b c : Nat} (h : A + 534433 ≤ 16 * k + (a + b + c)) (h2 : b ≤ 262144) (h3 : c ≤ 8192) : 262144 ≤ 16 * k + a := by omega
theorem ar_o2 {A B C k a b c : Nat} (h : A + B + C + 1075808 ≤ k + 2 * (a + b + c)) (h2 : b ≤ 262144) (h3 : c ≤ 8192) : 524288 ≤ k + 2 * a := by omega
theorem ar_o3 {A k a b c : Nat} (h : A + 534433 ≤ 16 * k + (a + b + c)) (h2 : a ≤ 262144) (h3 : c ≤ 8192) : 262144 ≤ 16 * k + b := by omega
theorem ar_o4 {A B C k a b c : Nat} (h : A + B + C + 1075808 ≤ k + 2 * (a + b + c)) (h2 : a ≤ 262144) (h3 : c ≤ 8192) : 524288 ≤ k + 2 * b := by omega
theorem ar_o5 {A k a b c : Nat} (h : A + 534433 ≤ 16 * k + (a + b + c)) (h2 : a ≤ 262144) (h3 : b ≤ 262144) : 8192 ≤ 16 * k + c := by omega
theorem ar_o6 {A B C k a b c : Nat} (h : A + B + C + 1075808 ≤ k + 2 * (a + b + c)) (h2 : a ≤ 262144) (h3 : b ≤ 262144) : 16384 ≤ k + 2 * c := by omega
/-- text, page and tape may be as long as they may be -/
theorem vC.b (h : vC n x s t t G H kc ks) (hR : RR G H sa x s t) (hM : MV t) : BT s x kc ks ∧ (262144 ≤ 16 * kc + capOf s ((s.P 222 x).getD 0) ∧ 524288 ≤ ks + 2 * capOf s ((s.P 222 x).getD 0)) ∧ BF s (H 220 x) kc ks := by
  obtain ⟨c1, c2, c3⟩ := cp_all hR
  obtain ⟨u1, u2⟩ := h.u hM
  exact ⟨⟨ar_o1 u1 c2 c3, ar_o2 u2 c2 c3⟩, ⟨ar_o3 u1 c1 c3, ar_o4 u2 c1 c3⟩, ⟨ar_o5 u1 c1 c2, ar_o6 u2 c1 c2⟩⟩
theorem ar_o7 {k k' a a' b b' c c' : Nat} (hb : b' = b) (hc : c' = c) (h : 16 * k + a ≤ 16 * k' + a') : 16 * k + (a + b + c) ≤ 16 * k' + (a' + b' + c') := by omega
theorem ar_o8 {k k' a a' b b' c c' : Nat} (hb : b' = b) (hc : c' = c) (h : k + 2 * a ≤ k' + 2 * a') : k + 2 * (a + b + c) ≤ k' + 2 * (a' + b' + c') := by omega
theorem ar_o9 {k k' a a' c c' : Nat} (hc : c' = c) (h : 16 * k + a ≤ 16 * k' + a') : 16 * k + (a + c) ≤ 16 * k' + (a' + c') := by omega
theorem ar_oa {k k' a a' c c' : Nat} (hc : c' = c) (h : k + 2 * a ≤ k' + 2 * a') : k + 2 * (a + c) ≤ k' + 2 * (a' + c') := by omega
theorem ar_ob {k k' a a' c c' : Nat} (hc : a' = a) (h : 16 * k + c ≤ 16 * k' + c') : 16 * k + (a + c) ≤ 16 * k' + (a' + c') := by omega
theorem ar_oc {k k' a a' c c' : Nat} (hc : a' = a) (h : k + 2 * c ≤ k' + 2 * c') : k + 2 * (a + c) ≤ k' + 2 * (a' + c') := by omega
theorem xt_cp {Rv Rq : List Nat} {Gp : List (Nat × Nat)} (hR : RR G H sa x s t) (f : fr Rv Gp Rq s s') (d0 : (0, 1) ∉ Gp) (e1 : s'.P 221 x = s.P 221 x) (e2 : s'.P 222 x = s.P 222 x) (e3 : capOf s' ((s.P 222 x).getD 0) = capOf s ((s.P 222 x).getD 0)) (k1 : 16 * kc + capOf s ((s.P 221 x).getD 0) ≤ 16 * kc' + capOf s' ((s.P 221 x).getD 0)) (k2 : ks + 2 * capOf s ((s.P 221 x).getD 0) ≤ ks' + 2 * capOf s' ((s.P 221 x).getD 0)) : 16 * kc + cpA s H x ≤ 16 * kc' + cpA s' H x ∧ ks + 2 * cpA s H x ≤ ks' + 2 * cpA s' H x := by
  have e := tp_st hR f d0
  unfold cpA TC
  rw [e1, e2]
  exact ⟨ar_o7 e3 e k1, ar_o8 e3 e k2⟩
theorem O_show (h : IVn sa x (n + 1) s t kc ks) (y z : Int32) : C_Rf_show sa x y z s kc ks (opQ sa x n t (M_show t y z)) := by
  obtain ⟨G, H, Os, E, hr, hn, hC⟩ := h
  obtain ⟨r, t', e, M', m, c⟩ := P_show hr.1 hr.2.1 (hC.b hr.1 hr.2.1).1 y z
  refine c _ fun s' kc' ks' R' X => ⟨t', e, ?_⟩
  obtain ⟨f, e1, e2, e3, k1, k2⟩ := X
  obtain ⟨q1, q2⟩ := xt_cp hr.1 f (by decide) e1 e2 e3 k1 k2
  exact (iv_so hr hn hC R' M' m (bt_m m (by decide)) f q1 q2 rfl rfl rfl rfl rfl rfl rfl (by decide) rfl).mid
theorem O_seen (h : IVn sa x (n + 1) s t kc ks) (y : Int32) : C_Rf_seen sa x y s kc ks (opQ sa x n t (M_seen t y)) := by
  obtain ⟨G, H, Os, E, hr, hn, hC⟩ := h
  refine so_op (P_seen hr.1 hr.2.1 (hC.b hr.1 hr.2.1).1 y) fun r t' s' kc' ks' e M' m R' X => ⟨t', e, ?_⟩
  obtain ⟨f, e1, e2, e3, k1, k2⟩ := X
  obtain ⟨q1, q2⟩ := xt_cp hr.1 f (by decide) e1 e2 e3 k1 k2
  exact (iv_so hr hn hC R' M' m (bt_m m (by decide)) f q1 q2 rfl rfl rfl rfl rfl rfl rfl (by decide) rfl).mid
theorem O_config (h : IVn sa x (n + 1) s t kc ks) : C_Rf_config sa x s kc ks (opQ sa x n t (M_config t)) := by
  obtain ⟨G, H, Os, E, hr, hn, hC⟩ := h
  obtain ⟨-, ⟨B1, B2⟩, -⟩ := hC.b hr.1 hr.2.1
  refine P_config hr.1 hr.2.1 B1 B2 _ fun r t' e M' m s' kc' ks' R' X => ⟨t', e, ?_⟩
  obtain ⟨f, k1, k2⟩ := X
  have et := tp_st hr.1 f (by decide)
  exact (iv_so hr hn hC R' M' m (bt_m m (by decide)) f (ar_o9 et k1) (ar_oa et k2) rfl rfl rfl rfl rfl rfl rfl (by decide) rfl).mid
/-- the tape behind feed, end, way, oracle -/
theorem feed_bt {r y1 y2 y3 y4 y5 : Int32} (hM : MV t) (e : M_feed t y1 y2 y3 y4 y5 = some (r, t')) : btL t' ≤ btL t + 20 := by
  obtain ⟨n, e3, -, hn⟩ := hM.1.2.2.1
  by_cases c : (4096 : Int32) < t.S 3 + 20
  · have e' : M_feed t y1 y2 y3 y4 y5 = some (0, moSS t 0 0) := if_pos c
    rw [e'] at e
    cases e
    exact bt_m (W := [0]) (mfr.ss (by decide)) (by decide)
  · have e20 : nI n + 20 = nI (n + 20) := nI_add n 20
    have hn20 : n + 20 ≤ 4096 := Nat.le_of_not_lt fun h => c (by rw [e3, e20]; exact nI_lt (a := 4096) h (by omega))
    have d0 : TD t (moSS t 0 0) (tl (t.I 2) n) := ⟨by rw [tl_len]; exact e3, by rw [tl_len]; exact hn, hM.n.n 2 4096, fun i hi => by rw [tl_len] at hi; rw [tl_get hi]; rfl, mfr.ss (by decide)⟩
    have l0 : (tl (t.I 2) n).length = n := tl_len _ _
    generalize hl : tl (t.I 2) n = l at d0 l0
    have lb : ∀ (a : List Int32) (v : Int64), (a ++ bnL v 4).length = a.length + 4 := fun a v => by rw [List.length_append, bnL_len]
    obtain ⟨t1, q1, d1⟩ := td_lay y1 d0 (by omega)
    obtain ⟨t2, q2, d2⟩ := td_lay y2 d1 (by rw [lb]; omega)
    obtain ⟨t3, q3, d3⟩ := td_lay y3 d2 (by rw [lb, lb]; omega)
    obtain ⟨t4, q4, d4⟩ := td_lay y4 d3 (by rw [lb, lb, lb]; omega)
    obtain ⟨t5, q5, d5⟩ := td_lay y5 d4 (by rw [lb, lb, lb, lb]; omega)
    have e' : M_feed t y1 y2 y3 y4 y5 = some (1, t5) := by
      refine (if_neg c).trans ?_
      rw [q1]; show Option.bind (M_lay t1 y2) _ = _
      rw [q2]; show Option.bind (M_lay t2 y3) _ = _
      rw [q3]; show Option.bind (M_lay t3 y4) _ = _
      rw [q4]; show Option.bind (M_lay t4 y5) _ = _
      rw [q5]; rfl
    rw [e'] at e
    cases e
    unfold btL
    rw [d5.1, e3, nI_clamp (by have := d5.2.1; omega), nI_clamp (by omega), lb, lb, lb, lb, lb, l0]
    omega
theorem end_bt {r y : Int32} (hM : MV t) (e : M_end t y = some (r, t')) : btL t' ≤ btL t + 20 := by
  obtain ⟨n, e3, -, hn⟩ := hM.1.2.2.1
  by_cases c0 : y < 0
  · have e' : M_end t y = some (0, moSS t 0 0) := if_pos c0
    rw [e'] at e
    cases e
    exact bt_m (W := [0]) (mfr.ss (by decide)) (by decide)
  by_cases c1 : t.S 3 < y
  · have e' : M_end t y = some (0, moSS t 0 0) := (if_neg c0).trans (if_pos c1)
    rw [e'] at e
    cases e
    exact bt_m (W := [0]) (mfr.ss (by decide)) (by decide)
  · have e' : M_end t y = some (1, moSS (moSS t 0 0) 3 y) := (if_neg c0).trans (if_neg c1)
    rw [e'] at e
    cases e
    obtain ⟨j, hj, rfl⟩ := nI_of c0
    have hjn : j ≤ n := Nat.le_of_not_lt fun h => c1 (by rw [e3]; exact nI_lt h hj)
    unfold btL
    rw [moSS_s, e3, nI_clamp hj, nI_clamp (by omega)]
    omega
theorem ta_0 : aw (M_takeAddress t) (fun z => z.2.S 3 = 0) := by
  unfold M_takeAddress
  refine aw_let (P := fun u => u.S 3 = 0) moSS_s fun u hu => aw_bn2 (P := fun z => z.2.S 3 = 0) (fun z e => ?_) fun y s2 h => aw_okZ (aw_some h)
  show z.2.S 3 = 0
  rw [(fM_readAddress (W := wM_readAddress) rfl mfr.rf z e).S 3 (by decide)]
  exact hu
theorem way_0 {y : Int32} : aw (M_way t y) (fun z => z.2.S 3 = 0) := by
  unfold M_way
  refine aw_let (P := fun _ => True) trivial fun u _ => aw_bn2 ta_0 fun y s2 h => aw_if (aw_some h) (aw_if (aw_some h) (fun z e => ?_))
  show z.2.S 3 = 0
  rw [(fM_way_b36 (W := wM_way_b36) rfl mfr.rf z e).S 3 (by decide)]
  exact h
theorem oracle_0 {y : Int32} : aw (M_oracle t y) (fun z => z.2.S 3 = 0) := by
  unfold M_oracle
  refine aw_let (P := fun _ => True) trivial fun u _ => aw_bn2 ta_0 fun y s2 h => aw_if (aw_some h) (aw_if (aw_some h) (aw_bind (P := fun _ => True) (fun _ _ => trivial) fun x4 _ => aw_if (aw_some h) (aw_bind (P := fun _ => True) (fun _ _ => trivial) fun x5 _ => aw_if (aw_some h) (fun z e => ?_))))
  show z.2.S 3 = 0
  rw [(fM_oracle_b76 (W := wM_oracle_b76) rfl mfr.rf z e).S 3 (by decide)]
  exact h
theorem O_feed (h : IVn sa x (n + 1) s t kc ks) (y1 y2 y3 y4 y5 : Int32) : C_Rf_feed sa x y1 y2 y3 y4 y5 s kc ks (opQ sa x n t (M_feed t y1 y2 y3 y4 y5)) := by
  obtain ⟨G, H, Os, E, hr, hn, hC⟩ := h
  refine so_op (P_feed hr.1 hr.2.1 (hC.b hr.1 hr.2.1).2.2 y1 y2 y3 y4 y5) fun r t' s' kc' ks' e M' m R' X => ⟨t', e, ?_⟩
  obtain ⟨f, k1, k2⟩ := X
  have et := tx_st hr.1 f rfl
  exact (iv_so hr hn hC R' M' m (feed_bt hr.2.1 e) f (ar_ob et k1) (ar_oc et k2) rfl rfl rfl rfl rfl rfl rfl (by decide) rfl).mid
theorem O_end (h : IVn sa x (n + 1) s t kc ks) (y : Int32) : C_Rf_end sa x y s kc ks (opQ sa x n t (M_end t y)) := by
  obtain ⟨G, H, Os, E, hr, hn, hC⟩ := h
  refine so_op (P_end hr.1 hr.2.1 y) fun r t' s' kc' ks' e M' m R' X => ⟨t', e, ?_⟩
  obtain ⟨f, k1, k2⟩ := X
  have et := tx_st hr.1 f rfl
  exact (iv_so hr hn hC R' M' m (end_bt hr.2.1 e) f (ar_ob et k1) (ar_oc et k2) rfl rfl rfl rfl rfl rfl rfl (by decide) rfl).mid
theorem O_way (h : IVn sa x (n + 1) s t kc ks) (y : Int32) : C_Rf_way sa x y s kc ks (opQ sa x n t (M_way t y)) := by
  obtain ⟨G, H, Os, E, hr, hn, hC⟩ := h
  refine so_op (P_way hr.1 hr.2.1 (hC.b hr.1 hr.2.1).1 y) fun r t' s' kc' ks' e M' m R' X => ⟨t', e, ?_⟩
  obtain ⟨f, e1, e2, e3, k1, k2⟩ := X
  obtain ⟨q1, q2⟩ := xt_cp hr.1 f (by decide) e1 e2 e3 k1 k2
  exact (iv_so hr hn hC R' M' m (bt_0 (way_0 _ e)) f q1 q2 rfl rfl rfl rfl rfl rfl rfl (by decide) rfl).mid
theorem ar_od {kc kc' R R' d d' c c' b b' : Nat} (hR : R' ≤ R) (hd : d' = d) (hb : b' = 0) (hc : c' = c) (h : kc ≤ kc' + 1) : 16 * (kc + R' + d') + c + 256 * b' ≤ 16 * (kc' + R + d) + c' + 256 * b + 5120 := by omega
theorem ar_oe {kc kc' R R' d d' c c' b b' : Nat} (hR : R' ≤ R) (hd : d' = d) (hb : b' = 0) (hc : c' = c) (h : kc ≤ kc' + 6) : kc + R' + d' + 2 * c + 300 * b' ≤ kc' + R + d + 2 * c' + 300 * b + 6000 := by omega
theorem O_oracle (h : IVn sa x (n + 1) s t kc ks) (y : Int32) : C_Rf_oracle sa x y s kc ks (opQ sa x n t (M_oracle t y)) := by
  obtain ⟨G, H, Os, E, hr, hn, hC⟩ := h
  obtain ⟨b1, b2⟩ := hC.k (m1 := 1) (m2 := 6) hr.1 hr.2.1 (by omega) (by omega)
  refine P_oracle hr.1 hr.2.1 hr.2.2.2.1 (Nat.le_trans (Nat.le_add_left _ _) b1) (Nat.le_trans (Nat.le_add_left _ _) b2) y _ fun r t' e M' m s' kc' ks' R' f k1 k2 => ⟨t', e, ?_⟩
  have ec := cp_fr hr.1 f (by decide) rfl
  obtain ⟨r1, r2⟩ := rc_fr hr.1 hr.2.1 f rfl (by decide) m rfl
  obtain ⟨q1, q2⟩ := rdC.fr hr.1 f rfl
  have e3 := oracle_0 _ e
  have eb : btL t' = 0 := by
    unfold btL
    rw [show t'.S 3 = 0 from e3]
    rfl
  exact IVh.mid ⟨G, H, Os, E, hr.so R' M' m rfl rfl rfl f rfl, hn.so m rfl rfl (bt_0 e3), hC.st (ar_od r1 q1 eb ec k1) (ar_oe r2 q2 eb ec k2)⟩
end Io
