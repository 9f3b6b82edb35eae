/-! The model's object: 166 fields, by number. -/
def moL (F : Nat → Value) : List Value := (List.range 166).map F
def upF (F : Nat → Value) (k : Nat) (v : Value) : Nat → Value := fun j => if j = k then v else F j
theorem upF_s (F : Nat → Value) (k : Nat) (v : Value) : upF F k v k = v := if_pos rfl
theorem upF_n (F : Nat → Value) {k j : Nat} (v : Value) (h : j ≠ k) : upF F k v j = F j := if_neg h
theorem moL_len (F : Nat → Value) : (moL F).length = 166 := by simp [moL]
theorem moL_get (F : Nat → Value) {k : Nat} (h : k < 166) : (moL F)[k]? = some (F k) := by
  unfold moL
  rw [List.getElem?_map, List.getElem?_range h]
  rfl
theorem moL_set (F : Nat → Value) {k : Nat} (h : k < 166) (v : Value) : (moL F).set k v = moL (upF F k v) := by
  apply List.ext_getElem?
  intro i
  by_cases hi : i < 166
  · rw [moL_get _ hi]
    by_cases e : i = k
    · subst e
      rw [List.getElem?_set_self (by rw [moL_len]; exact hi), upF_s]
    · rw [List.getElem?_set_ne (Ne.symm e), moL_get F hi, upF_n F v e]
  · rw [List.getElem?_eq_none (by rw [List.length_set, moL_len]; omega), List.getElem?_eq_none (by rw [moL_len]; omega)]
section MoRows
variable {cl : List vw_C} {base : Nat} {X : pmX} {Rt : pmR} {G : pmK} {pc : Nat} {L : pmL} {st : List Value} {M : pmM} {kc ks : Nat}
theorem pg_gm (hG : pm_cl cl base X Rt G) {i k m : Nat} {ty : FieldType} {w : Bool} {F : Nat → Value} {v : Value} (hc : X.code pc = some (.getfield i)) (hf : X.fld i = some (12, k, ty, w)) (hM : M m = some (.inr (12, moL F))) (hk : Nat.ble (k + 1) 166 = true) (hv : F k = v) (h : G (pc + 3) L (v :: st) M kc ks) : G pc L (.ref m :: st) M kc ks := pg_gf hG hc hf hM ((moL_get F (Nat.le_of_ble_eq_true hk)).trans (by rw [hv])) h
theorem pg_pm (hG : pm_cl cl base X Rt G) {i k m : Nat} {ty : FieldType} {F : Nat → Value} {v : Value} (hc : X.code pc = some (.putfield i)) (hf : X.fld i = some (12, k, ty, true)) (hM : M m = some (.inr (12, moL F))) (hb : base ≤ m) (hk : Nat.ble (k + 1) 166 = true) (hn : narrow ty v = v) (hfit : fits ty v = true) (h : G (pc + 3) L st (pm_up M m (.inr (12, moL (upF F k v)))) kc ks) : G pc L (v :: .ref m :: st) M kc ks := by
  refine pg_pf hG hc hf hM hb (by rw [moL_len]; exact Nat.le_of_ble_eq_true hk) hn hfit ?_
  rw [moL_set F (Nat.le_of_ble_eq_true hk)]
  exact h
end MoRows
set_option maxRecDepth 100000 in
theorem s_Mo_now (base : Nat) (sa : Nat → Nat) {m : Nat} {F : Nat → Value} {x : Int32} {M : pmM} {Rt : pmR} {kc ks : Nat} (hm : M m = some (.inr (12, moL F))) (hb : base ≤ m) (hx : F 1 = .int x) (k : Rt (some (.int x)) (pm_up M m (.inr (12, moL (upF F 0 (.int 0))))) kc ks) : kP_Mo_now base sa [.ref m] M kc ks Rt := by
  refine ⟨Nat.le_of_ble_eq_true rfl, fun G hG => ?_⟩
  refine pgs hG rfl rfl ?_
  refine pgs hG rfl rfl ?_
  refine pg_pm hG rfl rfl hm hb rfl rfl rfl ?_
  refine pgs hG rfl rfl ?_
  refine pg_gm hG rfl rfl (pm_up_self _ _ _) rfl ((upF_n F _ (by decide)).trans hx) ?_
  exact pg_ri hG rfl rfl rfl k
set_option maxRecDepth 100000 in
theorem s_Mo_fault (base : Nat) (sa : Nat → Nat) {m : Nat} {F : Nat → Value} {x : Int32} {M : pmM} {Rt : pmR} {kc ks : Nat} (hm : M m = some (.inr (12, moL F))) (hb : base ≤ m) (hx : F 4 = .int x) (k : Rt (some (.int x)) (pm_up M m (.inr (12, moL (upF F 0 (.int 0))))) kc ks) : kP_Mo_fault base sa [.ref m] M kc ks Rt := by
  refine ⟨Nat.le_of_ble_eq_true rfl, fun G hG => ?_⟩
  refine pgs hG rfl rfl ?_
  refine pgs hG rfl rfl ?_
  refine pg_pm hG rfl rfl hm hb rfl rfl rfl ?_
  refine pgs hG rfl rfl ?_
  refine pg_gm hG rfl rfl (pm_up_self _ _ _) rfl ((upF_n F _ (by decide)).trans hx) ?_
  exact pg_ri hG rfl rfl rfl k
set_option maxRecDepth 100000 in
theorem s_Mo_flying (base : Nat) (sa : Nat → Nat) {m : Nat} {F : Nat → Value} {x : Int32} {M : pmM} {Rt : pmR} {kc ks : Nat} (hm : M m = some (.inr (12, moL F))) (hb : base ≤ m) (hx : F 123 = .int x) (k : Rt (some (.int x)) (pm_up M m (.inr (12, moL (upF F 0 (.int 0))))) kc ks) : kP_Mo_flying base sa [.ref m] M kc ks Rt := by
  refine ⟨Nat.le_of_ble_eq_true rfl, fun G hG => ?_⟩
  refine pgs hG rfl rfl ?_
  refine pgs hG rfl rfl ?_
  refine pg_pm hG rfl rfl hm hb rfl rfl rfl ?_
  refine pgs hG rfl rfl ?_
  refine pg_gm hG rfl rfl (pm_up_self _ _ _) rfl ((upF_n F _ (by decide)).trans hx) ?_
  exact pg_ri hG rfl rfl rfl k
set_option maxRecDepth 100000 in
/-- end: the tape's size, if there are so many -/
theorem s_Mo_end (base : Nat) (sa : Nat → Nat) {m : Nat} {F : Nat → Value} {x y : Int32} {M : pmM} {Rt : pmR} {kc ks : Nat} (hm : M m = some (.inr (12, moL F))) (hb : base ≤ m) (hx : F 3 = .int x)
    (k0 : (y < 0 ∨ x < y) → Rt (some (.int 0)) (pm_up M m (.inr (12, moL (upF F 0 (.int 0))))) kc ks) (k1 : ¬ y < 0 → y ≤ x → Rt (some (.int 1)) (pm_up (pm_up M m (.inr (12, moL (upF F 0 (.int 0))))) m (.inr (12, moL (upF (upF F 0 (.int 0)) 3 (.int y))))) kc ks) : kP_Mo_end base sa [.ref m, .int y] M kc ks Rt := by
  refine ⟨Nat.le_of_ble_eq_true rfl, fun G hG => ?_⟩
  refine pgs hG rfl rfl ?_
  refine pgs hG rfl rfl ?_
  refine pg_pm hG rfl rfl hm hb rfl rfl rfl ?_
  refine pgs hG rfl rfl ?_
  refine pz_lt hG (t := 17) rfl rfl (fun c1 => ?_) (fun c1 => ?_)
  · refine pgs hG rfl rfl ?_
    exact pg_ri hG rfl rfl rfl (k0 (Or.inl c1))
  · refine pgs hG rfl rfl ?_
    refine pgs hG rfl rfl ?_
    refine pg_gm hG rfl rfl (pm_up_self _ _ _) rfl ((upF_n F _ (by decide)).trans hx) ?_
    refine pi_le hG (t := 19) rfl rfl (fun c2 => ?_) (fun c2 => ?_)
    · refine pgs hG rfl rfl ?_
      refine pgs hG rfl rfl ?_
      refine pg_pm hG rfl rfl (pm_up_self _ _ _) hb rfl rfl rfl ?_
      refine pgs hG rfl rfl ?_
      exact pg_ri hG rfl rfl rfl (k1 c1 c2)
    · refine pgs hG rfl rfl ?_
      exact pg_ri hG rfl rfl rfl (k0 (Or.inr (Int32.not_le.mp c2)))
