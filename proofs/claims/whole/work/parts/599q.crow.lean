/-! Jumps, calls and returns over the memory as one value. -/
section KkRows2
variable {sa : Nat → Nat} {base : Nat} {X : pmX} {Rt : pmR} {G : pmK} {pc : Nat} {L : pmL} {st st' : List Value} {R : pmM} {s : cS} {kc ks : Nat} {e e2 : Prop}
theorem kk_ilt (hG : pm_cl kcl base X Rt G) {off : Int} {x y : Int32} {t : Nat} {d : Decidable (x < y)} (hc : X.code pc = some (.if_icmp .lt off)) (hj : ((pc : Int) + off = (t : Int))) (a : KK sa R base G t L st s kc ks e) (b : KK sa R base G (pc + 3) L st s kc ks e2) : KK sa R base G pc L (.int y :: .int x :: st) s kc ks (@ite _ (x < y) d e e2) := fun hw h => pi_lt hG hc hj (fun c => a hw (by rw [if_pos c] at h; exact h)) (fun c => b hw (by rw [if_neg c] at h; exact h))
theorem kk_ige (hG : pm_cl kcl base X Rt G) {off : Int} {x y : Int32} {t : Nat} {d : Decidable (x < y)} (hc : X.code pc = some (.if_icmp .ge off)) (hj : ((pc : Int) + off = (t : Int))) (a : KK sa R base G t L st s kc ks e) (b : KK sa R base G (pc + 3) L st s kc ks e2) : KK sa R base G pc L (.int y :: .int x :: st) s kc ks (@ite _ (x < y) d e2 e) := fun hw h => pi_ge hG hc hj (fun c => a hw (by rw [if_neg (Int32.not_lt.mpr c)] at h; exact h)) (fun c => b hw (by rw [if_pos (Int32.not_le.mp c)] at h; exact h))
theorem kk_igt (hG : pm_cl kcl base X Rt G) {off : Int} {x y : Int32} {t : Nat} {d : Decidable (y < x)} (hc : X.code pc = some (.if_icmp .gt off)) (hj : ((pc : Int) + off = (t : Int))) (a : KK sa R base G t L st s kc ks e) (b : KK sa R base G (pc + 3) L st s kc ks e2) : KK sa R base G pc L (.int y :: .int x :: st) s kc ks (@ite _ (y < x) d e e2) := fun hw h => pi_gt hG hc hj (fun c => a hw (by rw [if_pos c] at h; exact h)) (fun c => b hw (by rw [if_neg c] at h; exact h))
theorem kk_ile (hG : pm_cl kcl base X Rt G) {off : Int} {x y : Int32} {t : Nat} {d : Decidable (y < x)} (hc : X.code pc = some (.if_icmp .le off)) (hj : ((pc : Int) + off = (t : Int))) (a : KK sa R base G t L st s kc ks e) (b : KK sa R base G (pc + 3) L st s kc ks e2) : KK sa R base G pc L (.int y :: .int x :: st) s kc ks (@ite _ (y < x) d e2 e) := fun hw h => pi_le hG hc hj (fun c => a hw (by rw [if_neg (Int32.not_lt.mpr c)] at h; exact h)) (fun c => b hw (by rw [if_pos (Int32.not_le.mp c)] at h; exact h))
theorem kk_ieq (hG : pm_cl kcl base X Rt G) {off : Int} {x y : Int32} {t : Nat} {d : Decidable (x = y)} (hc : X.code pc = some (.if_icmp .eq off)) (hj : ((pc : Int) + off = (t : Int))) (a : KK sa R base G t L st s kc ks e) (b : KK sa R base G (pc + 3) L st s kc ks e2) : KK sa R base G pc L (.int y :: .int x :: st) s kc ks (@ite _ (x = y) d e e2) := fun hw h => pi_eq hG hc hj (fun c => a hw (by rw [if_pos c] at h; exact h)) (fun c => b hw (by rw [if_neg c] at h; exact h))
theorem kk_ine (hG : pm_cl kcl base X Rt G) {off : Int} {x y : Int32} {t : Nat} {d : Decidable (x = y)} (hc : X.code pc = some (.if_icmp .ne off)) (hj : ((pc : Int) + off = (t : Int))) (a : KK sa R base G t L st s kc ks e) (b : KK sa R base G (pc + 3) L st s kc ks e2) : KK sa R base G pc L (.int y :: .int x :: st) s kc ks (@ite _ (x = y) d e2 e) := fun hw h => pi_ne hG hc hj (fun c => a hw (by rw [if_neg c] at h; exact h)) (fun c => b hw (by rw [if_pos c] at h; exact h))
theorem kk_zlt (hG : pm_cl kcl base X Rt G) {off : Int} {x : Int32} {t : Nat} {d : Decidable (x < 0)} (hc : X.code pc = some (.ifCond .lt off)) (hj : ((pc : Int) + off = (t : Int))) (a : KK sa R base G t L st s kc ks e) (b : KK sa R base G (pc + 3) L st s kc ks e2) : KK sa R base G pc L (.int x :: st) s kc ks (@ite _ (x < 0) d e e2) := fun hw h => pz_lt hG hc hj (fun c => a hw (by rw [if_pos c] at h; exact h)) (fun c => b hw (by rw [if_neg c] at h; exact h))
theorem kk_zge (hG : pm_cl kcl base X Rt G) {off : Int} {x : Int32} {t : Nat} {d : Decidable (x < 0)} (hc : X.code pc = some (.ifCond .ge off)) (hj : ((pc : Int) + off = (t : Int))) (a : KK sa R base G t L st s kc ks e) (b : KK sa R base G (pc + 3) L st s kc ks e2) : KK sa R base G pc L (.int x :: st) s kc ks (@ite _ (x < 0) d e2 e) := fun hw h => pz_ge hG hc hj (fun c => a hw (by rw [if_neg (Int32.not_lt.mpr c)] at h; exact h)) (fun c => b hw (by rw [if_pos (Int32.not_le.mp c)] at h; exact h))
theorem kk_zgt (hG : pm_cl kcl base X Rt G) {off : Int} {x : Int32} {t : Nat} {d : Decidable (0 < x)} (hc : X.code pc = some (.ifCond .gt off)) (hj : ((pc : Int) + off = (t : Int))) (a : KK sa R base G t L st s kc ks e) (b : KK sa R base G (pc + 3) L st s kc ks e2) : KK sa R base G pc L (.int x :: st) s kc ks (@ite _ (0 < x) d e e2) := fun hw h => pz_gt hG hc hj (fun c => a hw (by rw [if_pos c] at h; exact h)) (fun c => b hw (by rw [if_neg c] at h; exact h))
theorem kk_zle (hG : pm_cl kcl base X Rt G) {off : Int} {x : Int32} {t : Nat} {d : Decidable (0 < x)} (hc : X.code pc = some (.ifCond .le off)) (hj : ((pc : Int) + off = (t : Int))) (a : KK sa R base G t L st s kc ks e) (b : KK sa R base G (pc + 3) L st s kc ks e2) : KK sa R base G pc L (.int x :: st) s kc ks (@ite _ (0 < x) d e2 e) := fun hw h => pz_le hG hc hj (fun c => a hw (by rw [if_neg (Int32.not_lt.mpr c)] at h; exact h)) (fun c => b hw (by rw [if_pos (Int32.not_le.mp c)] at h; exact h))
theorem kk_zeq (hG : pm_cl kcl base X Rt G) {off : Int} {x : Int32} {t : Nat} {d : Decidable (x = 0)} (hc : X.code pc = some (.ifCond .eq off)) (hj : ((pc : Int) + off = (t : Int))) (a : KK sa R base G t L st s kc ks e) (b : KK sa R base G (pc + 3) L st s kc ks e2) : KK sa R base G pc L (.int x :: st) s kc ks (@ite _ (x = 0) d e e2) := fun hw h => pz_eq hG hc hj (fun c => a hw (by rw [if_pos c] at h; exact h)) (fun c => b hw (by rw [if_neg c] at h; exact h))
theorem kk_zne (hG : pm_cl kcl base X Rt G) {off : Int} {x : Int32} {t : Nat} {d : Decidable (x = 0)} (hc : X.code pc = some (.ifCond .ne off)) (hj : ((pc : Int) + off = (t : Int))) (a : KK sa R base G t L st s kc ks e) (b : KK sa R base G (pc + 3) L st s kc ks e2) : KK sa R base G pc L (.int x :: st) s kc ks (@ite _ (x = 0) d e2 e) := fun hw h => pz_ne hG hc hj (fun c => a hw (by rw [if_neg c] at h; exact h)) (fun c => b hw (by rw [if_pos c] at h; exact h))
theorem kk_leq (hG : pm_cl kcl base X Rt G) {off : Int} {x y : Int64} {t : Nat} {d : Decidable (x = y)} (hc : X.code pc = some (.ifCond .eq off)) (hj : ((pc : Int) + off = (t : Int))) (a : KK sa R base G t L st s kc ks e) (b : KK sa R base G (pc + 3) L st s kc ks e2) : KK sa R base G pc L (.int (lg_cmp x y) :: st) s kc ks (@ite _ (x = y) d e e2) := fun hw h => pz_eq hG hc hj (fun c => a hw (by rw [if_pos ((lg_cmp_eq x y).mp c)] at h; exact h)) (fun c => b hw (by rw [if_neg (fun w => c ((lg_cmp_eq x y).mpr w))] at h; exact h))
theorem kk_lne (hG : pm_cl kcl base X Rt G) {off : Int} {x y : Int64} {t : Nat} {d : Decidable (x = y)} (hc : X.code pc = some (.ifCond .ne off)) (hj : ((pc : Int) + off = (t : Int))) (a : KK sa R base G t L st s kc ks e) (b : KK sa R base G (pc + 3) L st s kc ks e2) : KK sa R base G pc L (.int (lg_cmp x y) :: st) s kc ks (@ite _ (x = y) d e2 e) := fun hw h => pz_ne hG hc hj (fun c => a hw (by rw [if_neg (fun w => c ((lg_cmp_eq x y).mpr w))] at h; exact h)) (fun c => b hw (by rw [if_pos ((lg_cmp_eq x y).mp c)] at h; exact h))
theorem kk_llt (hG : pm_cl kcl base X Rt G) {off : Int} {x y : Int64} {t : Nat} {d : Decidable (x < y)} (hc : X.code pc = some (.ifCond .lt off)) (hj : ((pc : Int) + off = (t : Int))) (a : KK sa R base G t L st s kc ks e) (b : KK sa R base G (pc + 3) L st s kc ks e2) : KK sa R base G pc L (.int (lg_cmp x y) :: st) s kc ks (@ite _ (x < y) d e e2) := fun hw h => pz_lt hG hc hj (fun c => a hw (by rw [if_pos ((lg_cmp_lt x y).mp c)] at h; exact h)) (fun c => b hw (by rw [if_neg (fun w => c ((lg_cmp_lt x y).mpr w))] at h; exact h))
theorem kk_lge (hG : pm_cl kcl base X Rt G) {off : Int} {x y : Int64} {t : Nat} {d : Decidable (x < y)} (hc : X.code pc = some (.ifCond .ge off)) (hj : ((pc : Int) + off = (t : Int))) (a : KK sa R base G t L st s kc ks e) (b : KK sa R base G (pc + 3) L st s kc ks e2) : KK sa R base G pc L (.int (lg_cmp x y) :: st) s kc ks (@ite _ (x < y) d e2 e) := fun hw h => pz_ge hG hc hj (fun c => a hw (by rw [if_neg (Int64.not_lt.mpr ((lg_cmp_ge x y).mp c))] at h; exact h)) (fun c => b hw (by rw [if_pos (Int64.not_le.mp fun w => c ((lg_cmp_ge x y).mpr w))] at h; exact h))
theorem kk_lgt (hG : pm_cl kcl base X Rt G) {off : Int} {x y : Int64} {t : Nat} {d : Decidable (y < x)} (hc : X.code pc = some (.ifCond .gt off)) (hj : ((pc : Int) + off = (t : Int))) (a : KK sa R base G t L st s kc ks e) (b : KK sa R base G (pc + 3) L st s kc ks e2) : KK sa R base G pc L (.int (lg_cmp x y) :: st) s kc ks (@ite _ (y < x) d e e2) := fun hw h => pz_gt hG hc hj (fun c => a hw (by rw [if_pos ((lg_cmp_gt x y).mp c)] at h; exact h)) (fun c => b hw (by rw [if_neg (fun w => c ((lg_cmp_gt x y).mpr w))] at h; exact h))
theorem kk_lle (hG : pm_cl kcl base X Rt G) {off : Int} {x y : Int64} {t : Nat} {d : Decidable (y < x)} (hc : X.code pc = some (.ifCond .le off)) (hj : ((pc : Int) + off = (t : Int))) (a : KK sa R base G t L st s kc ks e) (b : KK sa R base G (pc + 3) L st s kc ks e2) : KK sa R base G pc L (.int (lg_cmp x y) :: st) s kc ks (@ite _ (y < x) d e2 e) := fun hw h => pz_le hG hc hj (fun c => a hw (by rw [if_neg (Int64.not_lt.mpr ((lg_cmp_le x y).mp c))] at h; exact h)) (fun c => b hw (by rw [if_pos (Int64.not_le.mp fun w => c ((lg_cmp_le x y).mpr w))] at h; exact h))
theorem kk_nul (hG : pm_cl kcl base X Rt G) {off : Int} {x : Option Nat} {t : Nat} {d : Decidable (x = none)} (hc : X.code pc = some (.ifnull off)) (hj : ((pc : Int) + off = (t : Int))) (a : KK sa R base G t L st s kc ks e) (b : KK sa R base G (pc + 3) L st s kc ks e2) : KK sa R base G pc L (va_rf x :: st) s kc ks (@ite _ (x = none) d e e2) := fun hw h => pn_null hG hc hj (fun c => a hw (by rw [if_pos c] at h; exact h)) (fun c => b hw (by rw [if_neg c] at h; exact h))
theorem kk_nnl (hG : pm_cl kcl base X Rt G) {off : Int} {x : Option Nat} {t : Nat} {d : Decidable (x = none)} (hc : X.code pc = some (.ifnonnull off)) (hj : ((pc : Int) + off = (t : Int))) (a : KK sa R base G t L st s kc ks e) (b : KK sa R base G (pc + 3) L st s kc ks e2) : KK sa R base G pc L (va_rf x :: st) s kc ks (@ite _ (x = none) d e2 e) := fun hw h => pn_nonnull hG hc hj (fun c => a hw (by rw [if_neg c] at h; exact h)) (fun c => b hw (by rw [if_pos c] at h; exact h))
theorem pq_acmp (hG : pm_cl kcl base X Rt G) {M : pmM} {cd : _} {off : Int} {x y : Option Nat} {t : Nat} (hc : X.code pc = some (.if_acmp cd off)) (hj : ((pc : Int) + off = (t : Int))) (ht : (cd = .eq ↔ x = y) → G t L st M kc ks) (hf : ¬ (cd = .eq ↔ x = y) → G (pc + 3) L st M kc ks) : G pc L (va_rf y :: va_rf x :: st) M kc ks := by
  have e : pm_tgt pc off = t := by unfold pm_tgt; rw [hj]; rfl
  refine hG.1 _ _ _ _ _ _ _ hc ⟨?_, ?_⟩
  · unfold pm_jok; rw [hj]; omega
  · rw [e]
    cases y with
    | none =>
      cases x with
      | none => exact ⟨ht, hf⟩
      | some a => exact ⟨ht, hf⟩
    | some b =>
      cases x with
      | none => exact ⟨ht, hf⟩
      | some a => exact ⟨ht, hf⟩
theorem kk_aeq (hG : pm_cl kcl base X Rt G) {off : Int} {x y : Option Nat} {t : Nat} {d : Decidable (x = y)} (hc : X.code pc = some (.if_acmp .eq off)) (hj : ((pc : Int) + off = (t : Int))) (a : KK sa R base G t L st s kc ks e) (b : KK sa R base G (pc + 3) L st s kc ks e2) : KK sa R base G pc L (va_rf y :: va_rf x :: st) s kc ks (@ite _ (x = y) d e e2) := fun hw h => pq_acmp hG hc hj (fun c => a hw (by rw [if_pos (c.mp rfl)] at h; exact h)) (fun c => b hw (by rw [if_neg (fun w => c ⟨fun _ => w, fun _ => rfl⟩)] at h; exact h))
theorem kk_ane (hG : pm_cl kcl base X Rt G) {off : Int} {x y : Option Nat} {t : Nat} {d : Decidable (x = y)} (hc : X.code pc = some (.if_acmp .ne off)) (hj : ((pc : Int) + off = (t : Int))) (a : KK sa R base G t L st s kc ks e) (b : KK sa R base G (pc + 3) L st s kc ks e2) : KK sa R base G pc L (va_rf y :: va_rf x :: st) s kc ks (@ite _ (x = y) d e2 e) := fun hw h => pq_acmp hG hc hj (fun c => a hw (by rw [if_neg (fun w => nomatch c.mpr w)] at h; exact h)) (fun c => b hw (by rw [if_pos (Classical.byContradiction fun w => c (Iff.intro (fun z => by cases z) (fun z => absurd z w)))] at h; exact h))
/-- calls -/
theorem kk_cv {i n : Nat} {T : pmT} {As : List Value} {E : Prop} {f : cS → Nat → Nat → Prop} (hG : pm_cl kcl base X Rt G) (k : Nat) (hc : X.code pc = some (pm_iv k i)) (hy : X.cal i = some (k, n, T)) (hn : n ≤ st.length) (hk : k < 3) (hA : (st.take n).reverse = As) (hs : st.drop n = st') (h8 : pm_cats st' ≤ 8) (hT : ∀ Rt' : pmR, cW sa R base s → E → (∀ s' kc' ks', cW sa R base s' → f s' kc' ks' → Rt' none (cM R s') kc' ks') → T As (cM R s) kc ks Rt') (nx : ∀ s' kc' ks', KK sa R base G (pc + 3) L st' s' kc' ks' (f s' kc' ks')) : KK sa R base G pc L st s kc ks E := fun hw h => by
  refine pg_cal hG k hc hy hn hk (by rw [hs]; exact h8) ?_
  rw [hA, hs]
  exact hT _ hw h (fun s' kc' ks' hw h => nx s' kc' ks' hw h)
theorem kk_cx {γ : Type} {w : γ → Value} {i n : Nat} {T : pmT} {As : List Value} {E : Prop} {f : γ → cS → Nat → Nat → Prop} (hG : pm_cl kcl base X Rt G) (k : Nat) (hc : X.code pc = some (pm_iv k i)) (hy : X.cal i = some (k, n, T)) (hn : n ≤ st.length) (hk : k < 3) (hA : (st.take n).reverse = As) (hs : st.drop n = st') (h8 : pm_cats st' ≤ 8) (hT : ∀ Rt' : pmR, cW sa R base s → E → (∀ x s' kc' ks', cW sa R base s' → f x s' kc' ks' → Rt' (some (w x)) (cM R s') kc' ks') → T As (cM R s) kc ks Rt') (nx : ∀ x s' kc' ks', KK sa R base G (pc + 3) L (w x :: st') s' kc' ks' (f x s' kc' ks')) : KK sa R base G pc L st s kc ks E := fun hw h => by
  refine pg_cal hG k hc hy hn hk (by rw [hs]; exact h8) ?_
  rw [hA, hs]
  exact hT _ hw h (fun x s' kc' ks' hw h => nx x s' kc' ks' hw h)
/-- the receiver is there -/
theorem kk_rcv {ci b : Nat} {T : pmT} {As' : List Value} {mc ms : Nat} {Rt : pmR} (h : okO s ci b) (ht : T (.ref b :: As') (cM R s) mc ms Rt) : pm_rcv ci T (.ref b :: As') (cM R s) mc ms Rt := by
  obtain ⟨o1, o2, o3, o4⟩ := h.o
  exact pm_rcv_of (cM_o o1 o2 o3 o4) ht
/-- Math.max, Math.min -/
def mxI (x y : Int32) : Int32 := if x < y then y else x
def mnI (x y : Int32) : Int32 := if y < x then y else x
theorem kk_mx {i : Nat} {x y : Int32} (hG : pm_cl kcl base X Rt G) (hc : X.code pc = some (.invokestatic i)) (hy : X.cal i = some (2, 2, pm_mx)) (h8 : st.length ≤ 4) (nx : KK sa R base G (pc + 3) L (.int (mxI x y) :: st) s kc ks e) : KK sa R base G pc L (.int y :: .int x :: st) s kc ks e := fun hw h => pg_cal hG 2 hc hy (Nat.le_add_left 2 st.length) (by decide) (cats_le h8) ⟨x, y, rfl, nx hw h⟩
theorem kk_mn {i : Nat} {x y : Int32} (hG : pm_cl kcl base X Rt G) (hc : X.code pc = some (.invokestatic i)) (hy : X.cal i = some (2, 2, pm_mn)) (h8 : st.length ≤ 4) (nx : KK sa R base G (pc + 3) L (.int (mnI x y) :: st) s kc ks e) : KK sa R base G pc L (.int y :: .int x :: st) s kc ks e := fun hw h => pg_cal hG 2 hc hy (Nat.le_add_left 2 st.length) (by decide) (cats_le h8) ⟨x, y, rfl, nx hw h⟩
/-- Object's own start -/
theorem kk_oi {i a : Nat} (hG : pm_cl kcl base X Rt G) (hc : X.code pc = some (.invokespecial i)) (hy : X.cal i = some (1, 1, pm_oi)) (h8 : st.length ≤ 4) (nx : KK sa R base G (pc + 3) L st s kc ks e) : KK sa R base G pc L (va_rf (some a) :: st) s kc ks e := fun hw h => pg_cal hG 1 hc hy (Nat.le_add_left 1 st.length) (by decide) (cats_le h8) ⟨a, rfl, nx hw h⟩
theorem cAT_k {t : Nat} (h1 : 100 ≤ t) (h2 : t < 130) : refKind (cAT t) = false := by
  obtain ⟨k, rfl⟩ : ∃ k, t = 100 + k := ⟨t - 100, by omega⟩
  have key : ∀ k, k < 30 → refKind (cAT (100 + k)) = false := by decide
  exact key k (by omega)
/-- System.arraycopy -/
theorem kk_acp {i a b : Nat} {sp dp n : Int32} {f : cS → Prop} (hG : pm_cl kcl base X Rt G) (hc : X.code pc = some (.invokestatic i)) (hy : X.cal i = some (2, 5, pm_acp base)) (h8 : st.length ≤ 4) (nx : ∀ s', KK sa R base G (pc + 3) L st s' kc ks (f s')) : KK sa R base G pc L (.int n :: .int dp :: va_rf (some b) :: .int sp :: va_rf (some a) :: st) s kc ks (ob (cpE s a sp b dp n) f) := fun hw h => by
  obtain ⟨v, hv, h⟩ := h
  obtain ⟨⟨⟨a1, a2⟩, ⟨b1, b2⟩, hab, h1, h2, h3, h4, h5, h6⟩, rfl⟩ := gd_of hv
  refine pg_cal hG 2 hc hy (Nat.le_add_left 5 st.length) (by decide) (cats_le h8) ?_
  have hMa := cM_i (R := R) (s := s) (t := (s.K a).1) (n := (s.K a).2) (a := a) rfl (Nat.ble_eq_true_of_le a1) (Nat.ble_eq_true_of_le a2)
  have hMb := cM_i (R := R) (s := s) (t := (s.K b).1) (n := (s.K b).2) (a := b) rfl (Nat.ble_eq_true_of_le b1) (Nat.ble_eq_true_of_le b2)
  rw [hab] at hMb
  refine ⟨a, b, sp, dp, n, cAT (s.K a).1, (s.K a).2, (s.K b).2, s.E a, s.E b, rfl, hMa, hMb, cAT_k a1 a2, hw.b a (by omega), hw.b b (by omega), h1, h2, h3, h4, h5, h6, ?_⟩
  have hup : pm_up (cM R s) b (.inl (cAT (s.K a).1, (s.K b).2, .inl (va_cpy (s.E a) (s.E b) sp.toNatClampNeg dp.toNatClampNeg n.toNatClampNeg))) = cM R (s.1, s.2.1, s.2.2.1, s.2.2.2.1, fun x => if x = b then va_cpy (s.E a) (s.E b) sp.toNatClampNeg dp.toNatClampNeg n.toNatClampNeg else s.E x, s.2.2.2.2.2) := by
    refine cM_up rfl (by omega) ?_ (fun c hcb => ?_)
    · unfold cEt
      rw [if_neg (by omega), if_pos (by omega), ← hab]
      show some (Sum.inl (cAT (s.K b).1, (s.K b).2, Sum.inl (if b = b then va_cpy (s.E a) (s.E b) sp.toNatClampNeg dp.toNatClampNeg n.toNatClampNeg else s.E b))) = _
      rw [if_pos rfl]
    · unfold cEt
      have e1 : (if c = b then va_cpy (s.E a) (s.E b) sp.toNatClampNeg dp.toNatClampNeg n.toNatClampNeg else s.E c) = s.E c := if_neg hcb
      show (if (s.K c).1 < 100 then _ else if (s.K c).1 < 130 then some (Sum.inl (cAT (s.K c).1, (s.K c).2, Sum.inl (if c = b then va_cpy (s.E a) (s.E b) sp.toNatClampNeg dp.toNatClampNeg n.toNatClampNeg else s.E c))) else _) = _
      rw [e1]
      rfl
  show G (pc + 3) L st (pm_up (cM R s) b (.inl (cAT (s.K a).1, (s.K b).2, .inl (va_cpy (s.E a) (s.E b) sp.toNatClampNeg dp.toNatClampNeg n.toNatClampNeg)))) kc ks
  rw [hup]
  exact nx _ (hw.k rfl) h
/-- returns -/
theorem kk_ri (hG : pm_cl kcl base X Rt G) {x : Int32} {ty : FieldType} {Q : Int32 → cS → Nat → Nat → Prop} (hc : X.code pc = some .ireturn) (hr : X.ret = some ty) (hn : narrow ty (.int x) = .int x) (k : ∀ r s' kc' ks', cW sa R base s' → Q r s' kc' ks' → Rt (some (.int r)) (cM R s') kc' ks') : KK sa R base G pc L [.int x] s kc ks (Q x s kc ks) := fun hw h => pg_ri hG hc hr hn (k _ _ _ _ hw h)
theorem kk_rz (hG : pm_cl kcl base X Rt G) {x : Int32} {Q : Int32 → cS → Nat → Nat → Prop} (hc : X.code pc = some .ireturn) (hr : X.ret = some .boolean) (k : ∀ r s' kc' ks', cW sa R base s' → Q r s' kc' ks' → Rt (some (.int r)) (cM R s') kc' ks') : KK sa R base G pc L [.int x] s kc ks ((x = 0 ∨ x = 1) ∧ Q x s kc ks) := fun hw h => by
  refine pg_ri hG hc hr ?_ (k _ _ _ _ hw h.2)
  cases h.1 with
  | inl e => rw [e]; rfl
  | inr e => rw [e]; rfl
theorem kk_rb (hG : pm_cl kcl base X Rt G) {x : Int32} {Q : Int32 → cS → Nat → Nat → Prop} (hc : X.code pc = some .ireturn) (hr : X.ret = some .byte) (k : ∀ r s' kc' ks', cW sa R base s' → Q r s' kc' ks' → Rt (some (.int r)) (cM R s') kc' ks') : KK sa R base G pc L [.int x] s kc ks (x.toInt8.toInt32 = x ∧ Q x s kc ks) := fun hw h => by
  refine pg_ri hG hc hr ?_ (k _ _ _ _ hw h.2)
  show Value.int x.toInt8.toInt32 = _
  rw [h.1]
theorem kk_rl (hG : pm_cl kcl base X Rt G) {x : Int64} {Q : Int64 → cS → Nat → Nat → Prop} (hc : X.code pc = some .lreturn) (hr : X.ret = some .long) (k : ∀ r s' kc' ks', cW sa R base s' → Q r s' kc' ks' → Rt (some (.long r)) (cM R s') kc' ks') : KK sa R base G pc L [.long x] s kc ks (Q x s kc ks) := fun hw h => pg_rl hG hc hr (k _ _ _ _ hw h)
theorem kk_ra (hG : pm_cl kcl base X Rt G) {x : Option Nat} {ty : FieldType} {Q : Option Nat → cS → Nat → Nat → Prop} (hc : X.code pc = some .areturn) (hr : X.ret = some ty) (ht : ty.isReference = true) (k : ∀ r s' kc' ks', cW sa R base s' → Q r s' kc' ks' → Rt (some (va_rf r)) (cM R s') kc' ks') : KK sa R base G pc L [va_rf x] s kc ks (Q x s kc ks) := fun hw h => pg_ra hG hc hr ht (k _ _ _ _ hw h)
theorem kk_rv (hG : pm_cl kcl base X Rt G) {Q : cS → Nat → Nat → Prop} (hc : X.code pc = some .return_) (hr : X.ret = none) (k : ∀ s' kc' ks', cW sa R base s' → Q s' kc' ks' → Rt none (cM R s') kc' ks') : KK sa R base G pc L [] s kc ks (Q s kc ks) := fun hw h => pg_rv hG hc hr (k _ _ _ hw h)
end KkRows2
