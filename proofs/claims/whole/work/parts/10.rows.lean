/-! Rows over pictures: from the next state to this one. 'G' is closed under the body's steps. -/
section Rows
variable {cl : List vw_C} {base : Nat} {X : pmX} {Rt : pmR} {G : pmK} {pc : Nat} {L : pmL} {st : List Value} {M : pmM} {kc ks : Nat}
theorem pg (hG : pm_cl cl base X Rt G) {ins : Instr} (hc : X.code pc = some ins) (h : pm_ins cl base X Rt G ins pc L st M kc ks) : G pc L st M kc ks := hG.1 _ _ _ _ _ _ _ hc h
/-- fewer locals, in any order (by their places) -/
theorem pg_wl (hG : pm_cl cl base X Rt G) (is : List Nat) {L' : pmL} (he : lv_pick L is = L') (h : G pc L' st M kc ks) : G pc L st M kc ks := hG.2 is pc L st M M kc ks kc ks (fun _ _ h => h) (Nat.le_refl _) (Nat.le_refl _) (he ▸ h)
theorem pm_pick : ∀ L : pmL, lv_pick L (List.range L.length) = L := by
  intro L
  unfold lv_pick
  apply List.ext_getElem?
  intro i
  have key : ∀ (n : Nat) (k : Nat), k + n = L.length → (List.range' k n).filterMap (fun k => L[k]?) = L.drop k := by
    intro n
    induction n with
    | zero => intro k hk; rw [List.drop_of_length_le (by omega)]; rfl
    | succ n ih =>
      intro k hk
      have hkl : k < L.length := by omega
      rw [List.range'_succ, List.filterMap_cons, List.getElem?_eq_getElem hkl]
      show L[k] :: _ = _
      rw [ih (k + 1) (by omega), ← List.drop_eq_getElem_cons hkl]
  rw [List.range_eq_range', key L.length 0 (by omega)]
  rfl
/-- less room -/
theorem pg_wb (hG : pm_cl cl base X Rt G) {kc' ks' : Nat} (h1 : kc' ≤ kc) (h2 : ks' ≤ ks) (h : G pc L st M kc' ks') : G pc L st M kc ks := hG.2 (List.range L.length) pc L st M M kc ks kc' ks' (fun _ _ h => h) h1 h2 (by rw [pm_pick]; exact h)
/-- a picture that shows less -/
theorem pg_wm (hG : pm_cl cl base X Rt G) {M' : pmM} (hM : pm_le M' M) (h : G pc L st M' kc ks) : G pc L st M kc ks := hG.2 (List.range L.length) pc L st M M' kc ks kc ks hM (Nat.le_refl _) (Nat.le_refl _) (by rw [pm_pick]; exact h)
/-- a step that only counts: the next state is read off it -/
theorem pgs (hG : pm_cl cl base X Rt G) {ins : Instr} {pc' : Nat} {L' : pmL} {st' : List Value} {M' : pmM} {kc' ks' : Nat} (hc : X.code pc = some ins) (he : pm_ins cl base X Rt G ins pc L st M kc ks = G pc' L' st' M' kc' ks') (h : G pc' L' st' M' kc' ks') : G pc L st M kc ks := hG.1 _ _ _ _ _ _ _ hc (he ▸ h)
/-- a step that counts, under a condition -/
theorem pgc (hG : pm_cl cl base X Rt G) {ins : Instr} {P : Prop} {pc' : Nat} {L' : pmL} {st' : List Value} {M' : pmM} {kc' ks' : Nat} (hc : X.code pc = some ins) (he : pm_ins cl base X Rt G ins pc L st M kc ks = (P ∧ G pc' L' st' M' kc' ks')) (hp : P) (h : G pc' L' st' M' kc' ks') : G pc L st M kc ks := hG.1 _ _ _ _ _ _ _ hc (he ▸ ⟨hp, h⟩)
theorem pgc2 (hG : pm_cl cl base X Rt G) {ins : Instr} {P P2 : Prop} {pc' : Nat} {L' : pmL} {st' : List Value} {M' : pmM} {kc' ks' : Nat} (hc : X.code pc = some ins) (he : pm_ins cl base X Rt G ins pc L st M kc ks = (P ∧ P2 ∧ G pc' L' st' M' kc' ks')) (hp : P) (hp2 : P2) (h : G pc' L' st' M' kc' ks') : G pc L st M kc ks := hG.1 _ _ _ _ _ _ _ hc (he ▸ ⟨hp, hp2, h⟩)
/-- a field is read -/
theorem pg_gf (hG : pm_cl cl base X Rt G) {i ci k : Nat} {ty : FieldType} {w : Bool} {a : Nat} {fs : List Value} {v : Value} (hc : X.code pc = some (.getfield i)) (hf : X.fld i = some (ci, k, ty, w)) (hM : M a = some (.inr (ci, fs))) (hv : fs[k]? = some v) (h : G (pc + 3) L (v :: st) M kc ks) : G pc L (.ref a :: st) M kc ks := by
  refine hG.1 _ _ _ _ _ _ _ hc ?_
  show pm_opt (X.fld i) _
  rw [hf]
  show pm_ob M a ci _
  unfold pm_ob
  rw [hM]
  refine ⟨rfl, ?_⟩
  show pm_opt fs[k]? _
  rw [hv]
  exact h
/-- a field is written -/
theorem pg_pf (hG : pm_cl cl base X Rt G) {i ci k : Nat} {ty : FieldType} {a : Nat} {fs : List Value} {v : Value} (hc : X.code pc = some (.putfield i)) (hf : X.fld i = some (ci, k, ty, true)) (hM : M a = some (.inr (ci, fs))) (hb : base ≤ a) (hk : k < fs.length) (hn : narrow ty v = v) (hfit : fits ty v = true) (h : G (pc + 3) L st (pm_up M a (.inr (ci, fs.set k v))) kc ks) : G pc L (v :: .ref a :: st) M kc ks := by
  refine hG.1 _ _ _ _ _ _ _ hc ?_
  show pm_opt (X.fld i) _
  rw [hf]
  show pm_ob M a ci _
  unfold pm_ob
  rw [hM]
  exact ⟨rfl, hb, hk, hn, hfit, rfl, h⟩
/-- how long an array is -/
theorem pg_al (hG : pm_cl cl base X Rt G) {a n : Nat} {ty : FieldType} {x : (Nat → Int32) ⊕ (Nat → Int64) ⊕ (Nat → UInt32) ⊕ (Nat → UInt64) ⊕ (Nat → Option Nat)} (hc : X.code pc = some .arraylength) (hM : M a = some (.inl (ty, n, x))) (h : G (pc + 1) L (.int (nI n) :: st) M kc ks) : G pc L (.ref a :: st) M kc ks := by
  refine hG.1 _ _ _ _ _ _ _ hc ?_
  show (match M a with
    | some (.inl (_, n, _)) => G (pc + 1) L (.int (Int32.ofNat n) :: st) M kc ks
    | _ => False)
  rw [hM]
  exact h
theorem pg_ai {M : pmM} {a n : Nat} {ty : FieldType} {f : Nat → Int32} {ok : FieldType → Bool} {k : FieldType → Nat → (Nat → Int32) → Prop} (hM : M a = some (.inl (ty, n, .inl f))) (ht : ok ty = true) (h : k ty n f) : pm_ai M a ok k := by
  unfold pm_ai
  rw [hM]
  exact ⟨ht, h⟩
theorem pg_ia (hG : pm_cl cl base X Rt G) {a n : Nat} {f : Nat → Int32} {i : Int32} (hc : X.code pc = some .iaload) (hM : M a = some (.inl (.int, n, .inl f))) (hi : vp_in i n) (h : G (pc + 1) L (.int (f i.toNatClampNeg) :: st) M kc ks) : G pc L (.int i :: .ref a :: st) M kc ks := hG.1 _ _ _ _ _ _ _ hc (pg_ai (ok := pm_isInt) hM rfl ⟨hi, h⟩)
theorem pg_ba (hG : pm_cl cl base X Rt G) {a n : Nat} {f : Nat → Int32} {i : Int32} (hc : X.code pc = some .baload) (hM : M a = some (.inl (.byte, n, .inl f))) (hi : vp_in i n) (h : G (pc + 1) L (.int (f i.toNatClampNeg) :: st) M kc ks) : G pc L (.int i :: .ref a :: st) M kc ks := hG.1 _ _ _ _ _ _ _ hc (pg_ai (ok := pm_isByte) hM rfl ⟨hi, h⟩)
theorem pg_za (hG : pm_cl cl base X Rt G) {a n : Nat} {f : Nat → Int32} {i : Int32} (hc : X.code pc = some .baload) (hM : M a = some (.inl (.boolean, n, .inl f))) (hi : vp_in i n) (h : G (pc + 1) L (.int (f i.toNatClampNeg) :: st) M kc ks) : G pc L (.int i :: .ref a :: st) M kc ks := hG.1 _ _ _ _ _ _ _ hc (pg_ai (ok := pm_isByte) hM rfl ⟨hi, h⟩)
theorem pg_is (hG : pm_cl cl base X Rt G) {a n : Nat} {f : Nat → Int32} {i x : Int32} (hc : X.code pc = some .iastore) (hM : M a = some (.inl (.int, n, .inl f))) (hb : base ≤ a) (hi : vp_in i n) (h : G (pc + 1) L st (pm_up M a (.inl (.int, n, .inl (upd f i.toNatClampNeg x)))) kc ks) : G pc L (.int x :: .int i :: .ref a :: st) M kc ks := hG.1 _ _ _ _ _ _ _ hc (pg_ai (ok := pm_isInt) hM rfl ⟨hb, hi, h⟩)
theorem pg_bs (hG : pm_cl cl base X Rt G) {a n : Nat} {f : Nat → Int32} {i x : Int32} (hc : X.code pc = some .bastore) (hM : M a = some (.inl (.byte, n, .inl f))) (hb : base ≤ a) (hi : vp_in i n) (h : G (pc + 1) L st (pm_up M a (.inl (.byte, n, .inl (upd f i.toNatClampNeg x.toInt8.toInt32)))) kc ks) : G pc L (.int x :: .int i :: .ref a :: st) M kc ks := hG.1 _ _ _ _ _ _ _ hc (pg_ai (ok := pm_isByte) hM rfl ⟨hb, hi, h⟩)
/-- an array of references, read -/
theorem pg_aa (hG : pm_cl cl base X Rt G) {a n : Nat} {ty : FieldType} {f : Nat → Option Nat} {i : Int32} (hc : X.code pc = some .aaload) (hM : M a = some (.inl (ty, n, .inr (.inr (.inr (.inr f)))))) (hty : ty.isReference = true) (hi : vp_in i n) (h : G (pc + 1) L (va_rf (f i.toNatClampNeg) :: st) M kc ks) : G pc L (.int i :: .ref a :: st) M kc ks := by
  refine hG.1 _ _ _ _ _ _ _ hc ?_
  show pm_aq M a _
  unfold pm_aq
  rw [hM]
  exact ⟨hty, hi, h⟩
def pm_iv (k i : Nat) : Instr := match k with
  | 0 => .invokevirtual i
  | 1 => .invokespecial i
  | _ => .invokestatic i
/-- a call: its callee's own statement stands for it -/
theorem pg_call (hG : pm_cl cl base X Rt G) {i n : Nat} {T : pmT} {As r : List Value} (k : Nat) (hc : X.code pc = some (pm_iv k i)) (hy : X.cal i = some (k, n, T)) (hs : st = As.reverse ++ r) (hn : As.length = n) (hk : k < 3) (hw : pm_cats r ≤ 8) (h : T As M kc ks fun v M1 kc1 ks1 => G (pc + 3) L (v.toList ++ r) M1 kc1 ks1) : G pc L st M kc ks := by
  subst hs
  subst hn
  have e1 : (As.reverse ++ r).take As.length = As.reverse := by
    rw [List.take_append_of_le_length (by simp), List.take_of_length_le (by simp)]
  have e2 : (As.reverse ++ r).drop As.length = r := by
    have := List.drop_append_of_le_length (l₂ := r) (show As.length ≤ As.reverse.length by simp)
    rw [this, List.drop_of_length_le (by simp)]
    rfl
  refine hG.1 _ _ _ _ _ _ _ hc ?_
  have key : pm_opt (X.cal i) fun y => y.1 = k ∧ y.2.1 ≤ (As.reverse ++ r).length ∧ pm_cats ((As.reverse ++ r).drop y.2.1) ≤ 8 ∧ y.2.2 ((As.reverse ++ r).take y.2.1).reverse M kc ks fun v M1 kc1 ks1 => G (pc + 3) L (v.toList ++ (As.reverse ++ r).drop y.2.1) M1 kc1 ks1 := by
    rw [hy]
    refine ⟨rfl, by simp, ?_, ?_⟩
    · show pm_cats ((As.reverse ++ r).drop As.length) ≤ 8
      rw [e2]
      exact hw
    · show T ((As.reverse ++ r).take As.length).reverse M kc ks fun v M1 kc1 ks1 => G (pc + 3) L (v.toList ++ (As.reverse ++ r).drop As.length) M1 kc1 ks1
      rw [e1, e2, List.reverse_reverse]
      exact h
  match k, hk, hc, key with
  | 0, _, _, key => exact key
  | 1, _, _, key => exact key
  | 2, _, _, key =>
    obtain ⟨z, hz, k1, k2, k3, k4⟩ := pm_opt_of key
    show pm_opt (X.cal i) _
    rw [hz]
    exact ⟨k1, k2, Nat.le_trans k3 (by decide), k4⟩
  | n + 3, hk, _, _ => exact absurd hk (by omega)
theorem pg_cal (hG : pm_cl cl base X Rt G) {i n : Nat} {T : pmT} (k : Nat) (hc : X.code pc = some (pm_iv k i)) (hy : X.cal i = some (k, n, T)) (hn : n ≤ st.length) (hk : k < 3) (hw : pm_cats (st.drop n) ≤ 8) (h : T (st.take n).reverse M kc ks fun v M1 kc1 ks1 => G (pc + 3) L (v.toList ++ st.drop n) M1 kc1 ks1) : G pc L st M kc ks := by
  refine hG.1 _ _ _ _ _ _ _ hc ?_
  have key : pm_opt (X.cal i) fun y => y.1 = k ∧ y.2.1 ≤ st.length ∧ pm_cats (st.drop y.2.1) ≤ 8 ∧ y.2.2 (st.take y.2.1).reverse M kc ks fun v M1 kc1 ks1 => G (pc + 3) L (v.toList ++ st.drop y.2.1) M1 kc1 ks1 := by
    rw [hy]
    exact ⟨rfl, hn, hw, h⟩
  match k, hk, hc, key with
  | 0, _, _, key => exact key
  | 1, _, _, key => exact key
  | 2, _, _, key =>
    obtain ⟨z, hz, k1, k2, k3, k4⟩ := pm_opt_of key
    show pm_opt (X.cal i) _
    rw [hz]
    exact ⟨k1, k2, Nat.le_trans k3 (by decide), k4⟩
  | n + 3, hk, _, _ => exact absurd hk (by omega)
/-- a call of what has no receiver: more may wait on the stack -/
theorem pg_cal2 (hG : pm_cl cl base X Rt G) {i n : Nat} {T : pmT} (hc : X.code pc = some (.invokestatic i)) (hy : X.cal i = some (2, n, T)) (hn : n ≤ st.length) (hw : pm_cats (st.drop n) ≤ 12) (h : T (st.take n).reverse M kc ks fun v M1 kc1 ks1 => G (pc + 3) L (v.toList ++ st.drop n) M1 kc1 ks1) : G pc L st M kc ks := by
  refine hG.1 _ _ _ _ _ _ _ hc ?_
  show pm_opt (X.cal i) _
  rw [hy]
  exact ⟨rfl, hn, hw, h⟩
/-- what is made -/
theorem pg_new (hG : pm_cl cl base X Rt G) {i : Nat} {o : Nat × List Value} (hc : X.code pc = some (.new i)) (ho : X.mk i = some o) (h1 : 1 ≤ kc) (h2 : o.2.length ≤ ks) (h : ∀ q, M q = none → base ≤ q → G (pc + 3) L (.ref q :: st) (pm_up M q (.inr o)) (kc - 1) (ks - o.2.length)) : G pc L st M kc ks := by
  refine hG.1 _ _ _ _ _ _ _ hc ?_
  show pm_opt (X.mk i) _
  rw [ho]
  exact ⟨h1, h2, h⟩
theorem pg_nar (hG : pm_cl cl base X Rt G) {t : ArrayType} {n : Nat} (hc : X.code pc = some (.newarray t)) (ht : pm_nar t = true) (hn : n ≤ 4000000) (h1 : 1 ≤ kc) (h2 : n ≤ ks) (h : ∀ q, M q = none → base ≤ q → G (pc + 2) L (.ref q :: st) (pm_up M q (.inl (newarray.typeOf t, n, pm_zero t))) (kc - 1) (ks - n)) : G pc L (.int (nI n) :: st) M kc ks := by
  have e : (nI n).toNatClampNeg = n := nI_clamp (by omega)
  refine hG.1 _ _ _ _ _ _ _ hc ⟨ht, ?_⟩
  show ¬ nI n < 0 ∧ (nI n).toNatClampNeg ≤ 4000000 ∧ 1 ≤ kc ∧ (nI n).toNatClampNeg ≤ ks ∧ ∀ q, M q = none → base ≤ q → G (pc + 2) L (.ref q :: st) (pm_up M q (.inl (newarray.typeOf t, (nI n).toNatClampNeg, pm_zero t))) (kc - 1) (ks - (nI n).toNatClampNeg)
  rw [e]
  exact ⟨nI_pos (by omega), hn, h1, h2, h⟩
/-- locals, read -/
theorem pg_ar (hG : pm_cl cl base X Rt G) {i : Fin 4} {a : Nat} (hc : X.code pc = some (.aload_n i)) (hl : pm_get L i = some (.ref a)) (h : G (pc + 1) L (.ref a :: st) M kc ks) : G pc L st M kc ks := by
  refine hG.1 _ _ _ _ _ _ _ hc ?_
  show pm_old L i _
  unfold pm_old
  rw [hl]
  exact h
theorem pg_il (hG : pm_cl cl base X Rt G) {i : Fin 4} {x : Int32} (hc : X.code pc = some (.iload_n i)) (hl : pm_get L i = some (.int x)) (h : G (pc + 1) L (.int x :: st) M kc ks) : G pc L st M kc ks := by
  refine hG.1 _ _ _ _ _ _ _ hc ?_
  show pm_old L i _
  unfold pm_old
  rw [hl]
  exact h
/-- jumps: the target is a number -/
theorem pg_ic (hG : pm_cl cl base X Rt G) {cd : Jvm.ClassFile.Cond} {off : Int} {x y : Int32} {t : Nat} (hc : X.code pc = some (.if_icmp cd off)) (hj : ((pc : Int) + off = (t : Int))) (ht : pm_cmp cd x y → G t L st M kc ks) (hf : ¬ pm_cmp cd x y → G (pc + 3) L st M kc ks) : G pc L (.int y :: .int x :: st) M kc ks := by
  have e : pm_tgt pc off = t := by unfold pm_tgt; rw [hj]; rfl
  refine hG.1 _ _ _ _ _ _ _ hc ⟨?_, ?_, hf⟩
  · unfold pm_jok; rw [hj]; omega
  · rw [e]; exact ht
theorem pg_i0 (hG : pm_cl cl base X Rt G) {cd : Jvm.ClassFile.Cond} {off : Int} {x : Int32} {t : Nat} (hc : X.code pc = some (.ifCond cd off)) (hj : ((pc : Int) + off = (t : Int))) (ht : pm_cmp cd x 0 → G t L st M kc ks) (hf : ¬ pm_cmp cd x 0 → G (pc + 3) L st M kc ks) : G pc L (.int x :: st) M kc ks := by
  have e : pm_tgt pc off = t := by unfold pm_tgt; rw [hj]; rfl
  refine hG.1 _ _ _ _ _ _ _ hc ⟨?_, ?_, hf⟩
  · unfold pm_jok; rw [hj]; omega
  · rw [e]; exact ht
theorem pg_go (hG : pm_cl cl base X Rt G) {off : Int} {t : Nat} (hc : X.code pc = some (.goto off)) (hj : ((pc : Int) + off = (t : Int))) (h : G t L st M kc ks) : G pc L st M kc ks := by
  have e : pm_tgt pc off = t := by unfold pm_tgt; rw [hj]; rfl
  refine hG.1 _ _ _ _ _ _ _ hc ⟨?_, ?_⟩
  · unfold pm_jok; rw [hj]; omega
  · rw [e]; exact h
theorem pi_eq (hG : pm_cl cl base X Rt G) {off : Int} {x y : Int32} {t : Nat} (hc : X.code pc = some (.if_icmp .eq off)) (hj : ((pc : Int) + off = (t : Int))) (ht : x = y → G t L st M kc ks) (hf : ¬ x = y → G (pc + 3) L st M kc ks) : G pc L (.int y :: .int x :: st) M kc ks := pg_ic hG hc hj ht hf
theorem pz_eq (hG : pm_cl cl base X Rt G) {off : Int} {x : Int32} {t : Nat} (hc : X.code pc = some (.ifCond .eq off)) (hj : ((pc : Int) + off = (t : Int))) (ht : x = 0 → G t L st M kc ks) (hf : ¬ x = 0 → G (pc + 3) L st M kc ks) : G pc L (.int x :: st) M kc ks := pg_i0 hG hc hj ht hf
theorem pi_ne (hG : pm_cl cl base X Rt G) {off : Int} {x y : Int32} {t : Nat} (hc : X.code pc = some (.if_icmp .ne off)) (hj : ((pc : Int) + off = (t : Int))) (ht : ¬ x = y → G t L st M kc ks) (hf : x = y → G (pc + 3) L st M kc ks) : G pc L (.int y :: .int x :: st) M kc ks := pg_ic hG hc hj ht (fun h => hf (Decidable.not_not.mp h))
theorem pz_ne (hG : pm_cl cl base X Rt G) {off : Int} {x : Int32} {t : Nat} (hc : X.code pc = some (.ifCond .ne off)) (hj : ((pc : Int) + off = (t : Int))) (ht : ¬ x = 0 → G t L st M kc ks) (hf : x = 0 → G (pc + 3) L st M kc ks) : G pc L (.int x :: st) M kc ks := pg_i0 hG hc hj ht (fun h => hf (Decidable.not_not.mp h))
theorem pi_lt (hG : pm_cl cl base X Rt G) {off : Int} {x y : Int32} {t : Nat} (hc : X.code pc = some (.if_icmp .lt off)) (hj : ((pc : Int) + off = (t : Int))) (ht : x < y → G t L st M kc ks) (hf : ¬ x < y → G (pc + 3) L st M kc ks) : G pc L (.int y :: .int x :: st) M kc ks := pg_ic hG hc hj ht hf
theorem pz_lt (hG : pm_cl cl base X Rt G) {off : Int} {x : Int32} {t : Nat} (hc : X.code pc = some (.ifCond .lt off)) (hj : ((pc : Int) + off = (t : Int))) (ht : x < 0 → G t L st M kc ks) (hf : ¬ x < 0 → G (pc + 3) L st M kc ks) : G pc L (.int x :: st) M kc ks := pg_i0 hG hc hj ht hf
theorem pi_ge (hG : pm_cl cl base X Rt G) {off : Int} {x y : Int32} {t : Nat} (hc : X.code pc = some (.if_icmp .ge off)) (hj : ((pc : Int) + off = (t : Int))) (ht : y ≤ x → G t L st M kc ks) (hf : ¬ y ≤ x → G (pc + 3) L st M kc ks) : G pc L (.int y :: .int x :: st) M kc ks := pg_ic hG hc hj ht hf
theorem pz_ge (hG : pm_cl cl base X Rt G) {off : Int} {x : Int32} {t : Nat} (hc : X.code pc = some (.ifCond .ge off)) (hj : ((pc : Int) + off = (t : Int))) (ht : 0 ≤ x → G t L st M kc ks) (hf : ¬ 0 ≤ x → G (pc + 3) L st M kc ks) : G pc L (.int x :: st) M kc ks := pg_i0 hG hc hj ht hf
theorem pi_gt (hG : pm_cl cl base X Rt G) {off : Int} {x y : Int32} {t : Nat} (hc : X.code pc = some (.if_icmp .gt off)) (hj : ((pc : Int) + off = (t : Int))) (ht : y < x → G t L st M kc ks) (hf : ¬ y < x → G (pc + 3) L st M kc ks) : G pc L (.int y :: .int x :: st) M kc ks := pg_ic hG hc hj ht hf
theorem pz_gt (hG : pm_cl cl base X Rt G) {off : Int} {x : Int32} {t : Nat} (hc : X.code pc = some (.ifCond .gt off)) (hj : ((pc : Int) + off = (t : Int))) (ht : 0 < x → G t L st M kc ks) (hf : ¬ 0 < x → G (pc + 3) L st M kc ks) : G pc L (.int x :: st) M kc ks := pg_i0 hG hc hj ht hf
theorem pi_le (hG : pm_cl cl base X Rt G) {off : Int} {x y : Int32} {t : Nat} (hc : X.code pc = some (.if_icmp .le off)) (hj : ((pc : Int) + off = (t : Int))) (ht : x ≤ y → G t L st M kc ks) (hf : ¬ x ≤ y → G (pc + 3) L st M kc ks) : G pc L (.int y :: .int x :: st) M kc ks := pg_ic hG hc hj ht hf
theorem pz_le (hG : pm_cl cl base X Rt G) {off : Int} {x : Int32} {t : Nat} (hc : X.code pc = some (.ifCond .le off)) (hj : ((pc : Int) + off = (t : Int))) (ht : x ≤ 0 → G t L st M kc ks) (hf : ¬ x ≤ 0 → G (pc + 3) L st M kc ks) : G pc L (.int x :: st) M kc ks := pg_i0 hG hc hj ht hf
/-- the place's number, written out -/
theorem pg_at {pc' : Nat} (e : pc' = pc) (h : G pc' L st M kc ks) : G pc L st M kc ks := e ▸ h
theorem pg_rv (hG : pm_cl cl base X Rt G) (hc : X.code pc = some .return_) (hr : X.ret = none) (h : Rt none M kc ks) : G pc L [] M kc ks := hG.1 _ _ _ _ _ _ _ hc ⟨rfl, hr, h⟩
theorem pg_ri (hG : pm_cl cl base X Rt G) {x : Int32} {ty : FieldType} (hc : X.code pc = some .ireturn) (hr : X.ret = some ty) (hn : narrow ty (.int x) = .int x) (h : Rt (some (.int x)) M kc ks) : G pc L [.int x] M kc ks := hG.1 _ _ _ _ _ _ _ hc ⟨x, ty, rfl, hr, hn, h⟩
theorem pg_rl (hG : pm_cl cl base X Rt G) {x : Int64} (hc : X.code pc = some .lreturn) (hr : X.ret = some .long) (h : Rt (some (.long x)) M kc ks) : G pc L [.long x] M kc ks := hG.1 _ _ _ _ _ _ _ hc ⟨x, rfl, hr, h⟩
theorem pg_ra (hG : pm_cl cl base X Rt G) {q : Option Nat} {ty : FieldType} (hc : X.code pc = some .areturn) (hr : X.ret = some ty) (ht : ty.isReference = true) (h : Rt (some (va_rf q)) M kc ks) : G pc L [va_rf q] M kc ks := hG.1 _ _ _ _ _ _ _ hc ⟨q, ty, rfl, hr, ht, h⟩
theorem pm_rcv_of {ci b : Nat} {T : pmT} {As' : List Value} {fs : List Value} {mc ms : Nat} (hM : M b = some (.inr (ci, fs))) (h : T (.ref b :: As') M mc ms Rt) : pm_rcv ci T (.ref b :: As') M mc ms Rt := ⟨b, As', fs, rfl, hM, h⟩
/-- null or not -/
theorem pn_null (hG : pm_cl cl base X Rt G) {off : Int} {q : Option Nat} {t : Nat} (hc : X.code pc = some (.ifnull off)) (hj : ((pc : Int) + off = (t : Int))) (ht : q = none → G t L st M kc ks) (hf : ¬ q = none → G (pc + 3) L st M kc ks) : G pc L (va_rf q :: st) M kc ks := by
  have e : pm_tgt pc off = t := by unfold pm_tgt; rw [hj]; rfl
  refine hG.1 _ _ _ _ _ _ _ hc ⟨?_, ?_⟩
  · unfold pm_jok; rw [hj]; omega
  · rw [e]
    cases q with
    | none => exact ⟨ht, hf⟩
    | some a => exact ⟨ht, hf⟩
theorem pn_nonnull (hG : pm_cl cl base X Rt G) {off : Int} {q : Option Nat} {t : Nat} (hc : X.code pc = some (.ifnonnull off)) (hj : ((pc : Int) + off = (t : Int))) (ht : ¬ q = none → G t L st M kc ks) (hf : q = none → G (pc + 3) L st M kc ks) : G pc L (va_rf q :: st) M kc ks := by
  have e : pm_tgt pc off = t := by unfold pm_tgt; rw [hj]; rfl
  refine hG.1 _ _ _ _ _ _ _ hc ⟨?_, ?_⟩
  · unfold pm_jok; rw [hj]; omega
  · rw [e]
    cases q with
    | none => exact ⟨ht, hf⟩
    | some a => exact ⟨ht, hf⟩
/-- arrays of longs -/
theorem pg_la (hG : pm_cl cl base X Rt G) {a n : Nat} {f : Nat → Int64} {i : Int32} (hc : X.code pc = some .laload) (hM : M a = some (.inl (.long, n, .inr (.inl f)))) (hi : vp_in i n) (h : G (pc + 1) L (.long (f i.toNatClampNeg) :: st) M kc ks) : G pc L (.int i :: .ref a :: st) M kc ks := by
  refine hG.1 _ _ _ _ _ _ _ hc ?_
  show pm_al M a _
  unfold pm_al
  rw [hM]
  exact ⟨hi, h⟩
theorem pg_ls (hG : pm_cl cl base X Rt G) {a n : Nat} {f : Nat → Int64} {i : Int32} {x : Int64} (hc : X.code pc = some .lastore) (hM : M a = some (.inl (.long, n, .inr (.inl f)))) (hb : base ≤ a) (hi : vp_in i n) (h : G (pc + 1) L st (pm_up M a (.inl (.long, n, .inr (.inl (vp_updL f i.toNatClampNeg x))))) kc ks) : G pc L (.long x :: .int i :: .ref a :: st) M kc ks := by
  refine hG.1 _ _ _ _ _ _ _ hc ?_
  show pm_al M a _
  unfold pm_al
  rw [hM]
  exact ⟨hb, hi, h⟩
/-- an array of references, made -/
theorem pg_naq (hG : pm_cl cl base X Rt G) {i n : Nat} {C : String} (hc : X.code pc = some (.anewarray i)) (ht : X.arr i = some C) (hn : n ≤ 4000000) (h1 : 1 ≤ kc) (h2 : n ≤ ks) (h : ∀ q, M q = none → base ≤ q → G (pc + 3) L (.ref q :: st) (pm_up M q (.inl (.object C, n, .inr (.inr (.inr (.inr fun _ => none)))))) (kc - 1) (ks - n)) : G pc L (.int (nI n) :: st) M kc ks := by
  have e : (nI n).toNatClampNeg = n := nI_clamp (by omega)
  refine hG.1 _ _ _ _ _ _ _ hc ?_
  show pm_opt (X.arr i) _
  rw [ht]
  show ¬ nI n < 0 ∧ (nI n).toNatClampNeg ≤ 4000000 ∧ 1 ≤ kc ∧ (nI n).toNatClampNeg ≤ ks ∧ ∀ q, M q = none → base ≤ q → G (pc + 3) L (.ref q :: st) (pm_up M q (.inl (.object C, (nI n).toNatClampNeg, .inr (.inr (.inr (.inr fun _ => none)))))) (kc - 1) (ks - (nI n).toNatClampNeg)
  rw [e]
  exact ⟨nI_pos (by omega), hn, h1, h2, h⟩
end Rows
