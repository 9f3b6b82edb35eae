/-! The model's object: 166 fields, by number. -/
def moL (F : Nat → Value) : List Value := (List.range 166).map F
def upF (F : Nat → Value) (k : Nat) (v : Value) : Nat → Value := fun j => if j = k then v else F j
theorem upF_s (F : Nat → Value) (k : Nat) (v : Value) : upF F k v k = v := if_pos rfl
theorem upF_n (F : Nat → Value) {k j : Nat} (v : Value) (h : j ≠ k) : upF F k v j = F j := if_neg h
theorem moL_len (F : Nat → Value) : (moL F).length = 166 := by simp [moL]
theorem moL_get (F : Nat → Value) {k : Nat} (h : k < 166) : (moL F)[k]? = some (F k) := by
  unfold moL
  rw [List.getElem?_map, List.getElem?_range h]
  rfl
theorem moL_set (F : Nat → Value) {k : Nat} (h : k < 166) (v : Value) : (moL F).set k v = moL (upF F k v) := by
  apply List.ext_getElem?
  intro i
  by_cases hi : i < 166
  · rw [moL_get _ hi]
    by_cases e : i = k
    · subst e
      rw [List.getElem?_set_self (by rw [moL_len]; exact hi), upF_s]
    · rw [List.getElem?_set_ne (Ne.symm e), moL_get F hi, upF_n F v e]
  · rw [List.getElem?_eq_none (by rw [List.length_set, moL_len]; omega), List.getElem?_eq_none (by rw [moL_len]; omega)]
section MoRows
variable {cl : List vw_C} {base : Nat} {X : pmX} {Rt : pmR} {G : pmK} {pc : Nat} {L : pmL} {st : List Value} {M : pmM} {kc ks : Nat}
theorem pg_gm (hG : pm_cl cl base X Rt G) {i k m : Nat} {ty : FieldType} {w : Bool} {F : Nat → Value} {v : Value} (hc : X.code pc = some (.getfield i)) (hf : X.fld i = some (12, k, ty, w)) (hM : M m = some (.inr (12, moL F))) (hk : Nat.ble (k + 1) 166 = true) (hv : F k = v) (h : G (pc + 3) L (v :: st) M kc ks) : G pc L (.ref m :: st) M kc ks := pg_gf hG hc hf hM ((moL_get F (Nat.le_of_ble_eq_true hk)).trans (by rw [hv])) h
theorem pg_pm (hG : pm_cl cl base X Rt G) {i k m : Nat} {ty : FieldType} {F : Nat → Value} {v : Value} (hc : X.code pc = some (.putfield i)) (hf : X.fld i = some (12, k, ty, true)) (hM : M m = some (.inr (12, moL F))) (hb : base ≤ m) (hk : Nat.ble (k + 1) 166 = true) (hn : narrow ty v = v) (hfit : fits ty v = true) (h : G (pc + 3) L st (pm_up M m (.inr (12, moL (upF F k v)))) kc ks) : G pc L (v :: .ref m :: st) M kc ks := by
  refine pg_pf hG hc hf hM hb (by rw [moL_len]; exact Nat.le_of_ble_eq_true hk) hn hfit ?_
  rw [moL_set F (Nat.le_of_ble_eq_true hk)]
  exact h
end MoRows
set_option maxRecDepth 100000 in
theorem s_Mo_now (base : Nat) (sa : Nat → Nat) {m : Nat} {F : Nat → Value} {x : Int32} {M : pmM} {Rt : pmR} {kc ks : Nat} (hm : M m = some (.inr (12, moL F))) (hb : base ≤ m) (hx : F 1 = .int x) (k : Rt (some (.int x)) (pm_up M m (.inr (12, moL (upF F 0 (.int 0))))) kc ks) : kP_Mo_now base sa [.ref m] M kc ks Rt := by
  refine ⟨Nat.le_of_ble_eq_true rfl, fun G hG => ?_⟩
  refine pgs hG rfl rfl ?_
  refine pgs hG rfl rfl ?_
  refine pg_pm hG rfl rfl hm hb rfl rfl rfl ?_
  refine pgs hG rfl rfl ?_
  refine pg_gm hG rfl rfl (pm_up_self _ _ _) rfl ((upF_n F _ (by decide)).trans hx) ?_
  exact pg_ri hG rfl rfl rfl k
set_option maxRecDepth 100000 in
theorem s_Mo_fault (base : Nat) (sa : Nat → Nat) {m : Nat} {F : Nat → Value} {x : Int32} {M : pmM} {Rt : pmR} {kc ks : Nat} (hm : M m = some (.inr (12, moL F))) (hb : base ≤ m) (hx : F 4 = .int x) (k : Rt (some (.int x)) (pm_up M m (.inr (12, moL (upF F 0 (.int 0))))) kc ks) : kP_Mo_fault base sa [.ref m] M kc ks Rt := by
  refine ⟨Nat.le_of_ble_eq_true rfl, fun G hG => ?_⟩
  refine pgs hG rfl rfl ?_
  refine pgs hG rfl rfl ?_
  refine pg_pm hG rfl rfl hm hb rfl rfl rfl ?_
  refine pgs hG rfl rfl ?_
  refine pg_gm hG rfl rfl (pm_up_self _ _ _) rfl ((upF_n F _ (by decide)).trans hx) ?_
  exact pg_ri hG rfl rfl rfl k
set_option maxRecDepth 100000 in
theorem s_Mo_flying (base : Nat) (sa : Nat → Nat) {m : Nat} {F : Nat → Value} {x : Int32} {M : pmM} {Rt : pmR} {kc ks : Nat} (hm : M m = some (.inr (12, moL F))) (hb : base ≤ m) (hx : F 123 = .int x) (k : Rt (some (.int x)) (pm_up M m (.inr (12, moL (upF F 0 (.int 0))))) kc ks) : kP_Mo_flying base sa [.ref m] M kc ks Rt := by
  refine ⟨Nat.le_of_ble_eq_true rfl, fun G hG => ?_⟩
  refine pgs hG rfl rfl ?_
  refine pgs hG rfl rfl ?_
  refine pg_pm hG rfl rfl hm hb rfl rfl rfl ?_
  refine pgs hG rfl rfl ?_
  refine pg_gm hG rfl rfl (pm_up_self _ _ _) rfl ((upF_n F _ (by decide)).trans hx) ?_
  exact pg_ri hG rfl rfl rfl k
set_option maxRecDepth 100000 in
/-- end: the tape's size, if there are so many -/
theorem s_Mo_end (base : Nat) (sa : Nat → Nat) {m : Nat} {F : Nat → Value} {x y : Int32} {M : pmM} {Rt : pmR} {kc ks : Nat} (hm : M m = some (.inr (12, moL F))) (hb : base ≤ m) (hx : F 3 = .int x)
    (k0 : (y < 0 ∨ x < y) → Rt (some (.int 0)) (pm_up M m (.inr (12, moL (upF F 0 (.int 0))))) kc ks) (k1 : ¬ y < 0 → y ≤ x → Rt (some (.int 1)) (pm_up (pm_up M m (.inr (12, moL (upF F 0 (.int 0))))) m (.inr (12, moL (upF (upF F 0 (.int 0)) 3 (.int y))))) kc ks) : kP_Mo_end base sa [.ref m, .int y] M kc ks Rt := by
  refine ⟨Nat.le_of_ble_eq_true rfl, fun G hG => ?_⟩
  refine pgs hG rfl rfl ?_
  refine pgs hG rfl rfl ?_
  refine pg_pm hG rfl rfl hm hb rfl rfl rfl ?_
  refine pgs hG rfl rfl ?_
  refine pz_lt hG (t := 17) rfl rfl (fun c1 => ?_) (fun c1 => ?_)
  · refine pgs hG rfl rfl ?_
    exact pg_ri hG rfl rfl rfl (k0 (Or.inl c1))
  · refine pgs hG rfl rfl ?_
    refine pgs hG rfl rfl ?_
    refine pg_gm hG rfl rfl (pm_up_self _ _ _) rfl ((upF_n F _ (by decide)).trans hx) ?_
    refine pi_le hG (t := 19) rfl rfl (fun c2 => ?_) (fun c2 => ?_)
    · refine pgs hG rfl rfl ?_
      refine pgs hG rfl rfl ?_
      refine pg_pm hG rfl rfl (pm_up_self _ _ _) hb rfl rfl rfl ?_
      refine pgs hG rfl rfl ?_
      exact pg_ri hG rfl rfl rfl (k1 c1 c2)
    · refine pgs hG rfl rfl ?_
      exact pg_ri hG rfl rfl rfl (k0 (Or.inr (Int32.not_le.mp c2)))
theorem upF_uu (F : Nat → Value) (k : Nat) (v w : Value) : upF (upF F k v) k w = upF F k w := by
  funext j
  unfold upF
  split <;> rfl
/-- one byte of an int, as the model has it -/
def mo_b (v : Int32) (sh : Nat) : Int32 := v >>> (nI sh &&& 31) &&& 255
/-- the model's tape: the list l -/
def vTp (base : Nat) (M : pmM) (m t : Nat) (F : Nat → Value) (l : List Int32) : Prop := M m = some (.inr (12, moL F)) ∧ F 2 = .ref t ∧ F 3 = .int (nI l.length) ∧ l.length ≤ 4096 ∧ base ≤ m ∧ base ≤ t ∧ m ≠ t ∧ ∃ g : Nat → Int32, M t = some (.inl (.int, 4096, .inl g)) ∧ ∀ i, i < l.length → g i = l.getD i 0
/-- the bytes of an int, highest first -/
def moB (v : Int32) : Nat → List Int32
  | 0 => []
  | s + 1 => mo_b v (8 * s) :: moB v s
theorem moB_len (v : Int32) : ∀ s, (moB v s).length = s
  | 0 => rfl
  | s + 1 => by rw [moB, List.length_cons, moB_len v s]
set_option maxRecDepth 100000 in
/-- lay: four bytes more on the tape -/
theorem v_Mo_lay (base : Nat) (sa : Nat → Nat) {m t : Nat} {F : Nat → Value} {l : List Int32} {v : Int32} {M : pmM} {Rt : pmR} {kc ks : Nat} (hv : vTp base M m t F l) (hn : l.length + 4 ≤ 4096)
    (k : ∀ M' : pmM, vTp base M' m t (upF F 3 (.int (nI (l.length + 4)))) (l ++ moB v 4) → (∀ a, a ≠ m → a ≠ t → M' a = M a) → Rt none M' kc ks) : kP_Mo_lay base sa [.ref m, .int v] M kc ks Rt := by
  refine ⟨Nat.le_of_ble_eq_true rfl, fun G hG => ?_⟩
  have hsv : ∀ j : Nat, nI (8 * j) + Int32.ofInt (-8) = nI (8 * j) - 8 := fun j => by
    rw [Int32.sub_eq_add_neg]
    rfl
  have hsv1 : ∀ j : Nat, nI (8 * (j + 1)) - 8 = nI (8 * j) := fun j => by
    rw [show (8 : Int32) = nI 8 from rfl, pk_sub (by omega)]
    congr 1
  have loop : ∀ (j : Nat) (l1 : List Int32) (M1 : pmM), j ≤ 4 → l1 ++ moB v j = l ++ moB v 4 → vTp base M1 m t (upF F 3 (.int (nI l1.length))) l1 → (∀ a, a ≠ m → a ≠ t → M1 a = M a) → G 3 [(2, .int (nI (8 * j) - 8)), (0, .ref m), (1, .int v)] [] M1 kc ks := by
    intro j
    induction j with
    | zero =>
      intro l1 M1 hj hl hv1 hM
      refine pgs hG rfl rfl ?_
      refine pz_lt hG (t := 39) rfl rfl (fun _ => ?_) (fun c => absurd (by decide) c)
      refine pg_rv hG rfl rfl ?_
      rw [moB, List.append_nil] at hl
      subst hl
      have e : (l ++ moB v 4).length = l.length + 4 := by rw [List.length_append, moB_len]
      rw [e] at hv1
      exact k M1 hv1 hM
    | succ j ih =>
      intro l1 M1 hj hl hv1 hM
      have hlen : l1.length + (j + 1) = l.length + 4 := by
        have h := congrArg List.length hl
        rw [List.length_append, List.length_append, moB_len, moB_len] at h
        exact h
      obtain ⟨w1, w2, w3, w4, w5, w6, w7, g, w8, w9⟩ := hv1
      rw [hsv1]
      refine pgs hG rfl rfl ?_
      refine pz_lt hG (t := 39) rfl rfl (fun c => absurd c (nI_pos (by omega))) (fun _ => ?_)
      refine pgs hG rfl rfl ?_
      refine pg_gm hG rfl rfl w1 rfl w2 ?_
      refine pgs hG rfl rfl ?_
      refine pg_gm hG rfl rfl w1 rfl w3 ?_
      refine pgs hG rfl rfl ?_
      refine pgs hG rfl rfl ?_
      refine pgs hG rfl rfl ?_
      refine pgs hG rfl rfl ?_
      refine pgs hG rfl rfl ?_
      refine pg_is hG rfl w8 w6 (vp_in_nI (by omega) (by omega)) ?_
      rw [nI_clamp (by omega)]
      refine pgs hG rfl rfl ?_
      refine pgc hG rfl rfl rfl ?_
      refine pg_gm hG rfl rfl ((pm_up_ne _ _ w7).trans w1) rfl w3 ?_
      refine pgs hG rfl rfl ?_
      refine pgs hG rfl rfl ?_
      refine pg_pm hG rfl rfl ((pm_up_ne _ _ w7).trans w1) w5 rfl rfl rfl ?_
      refine pgc hG rfl rfl (Nat.le_of_ble_eq_true rfl) ?_
      refine pg_go hG (t := 3) rfl rfl ?_
      show G 3 [(2, .int (nI (8 * j) + Int32.ofInt (-8))), (0, .ref m), (1, .int v)] [] _ _ _
      rw [hsv, upF_uu, show nI l1.length + Int32.ofInt 1 = nI (l1 ++ [mo_b v (8 * j)]).length from by rw [List.length_append]; exact nI_1 _]
      refine ih (l1 ++ [mo_b v (8 * j)]) _ (by omega) ?_ ?_ ?_
      · rw [← hl, List.append_assoc]
        rfl
      · refine ⟨pm_up_self _ _ _, ?_, upF_s _ _ _, by rw [List.length_append, List.length_singleton]; omega, w5, w6, w7, upd g l1.length (mo_b v (8 * j)), (pm_up_ne _ _ w7.symm).trans (pm_up_self _ _ _), ?_⟩
        · rw [upF_n _ _ (by decide)] at w2 ⊢
          exact w2
        · intro i hi
          rw [List.length_append, List.length_singleton] at hi
          by_cases h : i < l1.length
          · rw [pk_un (by omega), w9 i h, List.getD_eq_getElem?_getD, List.getD_eq_getElem?_getD, List.getElem?_append_left h]
          · have e : i = l1.length := by omega
            subst e
            rw [pk_us, List.getD_eq_getElem?_getD, List.getElem?_append_right (Nat.le_refl _), Nat.sub_self]
            rfl
      · intro a ha1 ha2
        rw [pm_up_ne _ _ ha1, pm_up_ne _ _ ha2, hM a ha1 ha2]
  refine pgs hG rfl rfl ?_
  refine pgc hG rfl rfl (Nat.le_of_ble_eq_true rfl) ?_
  have e0 : (Int8.ofInt 24).toInt32 = nI (8 * 4) - 8 := by decide
  show G 3 [(2, .int (Int8.ofInt 24).toInt32), (0, .ref m), (1, .int v)] [] _ _ _
  rw [e0]
  refine loop 4 l M (Nat.le_refl _) rfl ?_ (fun a _ _ => rfl)
  have e1 : upF F 3 (.int (nI l.length)) = F := by
    funext j
    unfold upF
    split
    · rename_i h; rw [h]; exact hv.2.2.1.symm
    · rfl
  rw [e1]
  exact hv
set_option maxRecDepth 100000 in
/-- feed: twenty bytes more on the model's tape, if it has room -/
theorem v_Mo_feed (base : Nat) (sa : Nat → Nat) {m t : Nat} {F : Nat → Value} {l : List Int32} {a1 a2 a3 a4 a5 : Int32} {M : pmM} {Rt : pmR} {kc ks : Nat} (hv : vTp base M m t F l)
    (k0 : 4096 < l.length + 20 → Rt (some (.int 0)) (pm_up M m (.inr (12, moL (upF F 0 (.int 0))))) kc ks)
    (k1 : l.length + 20 ≤ 4096 → ∀ M' : pmM, vTp base M' m t (upF (upF F 0 (.int 0)) 3 (.int (nI (l.length + 20)))) (((((l ++ moB a1 4) ++ moB a2 4) ++ moB a3 4) ++ moB a4 4) ++ moB a5 4) → (∀ a, a ≠ m → a ≠ t → M' a = M a) → Rt (some (.int 1)) M' kc ks) : kP_Mo_feed base sa [.ref m, .int a1, .int a2, .int a3, .int a4, .int a5] M kc ks Rt := by
  have hv0 := hv
  obtain ⟨w1, w2, w3, w4, w5, w6, w7, g, w8, w9⟩ := hv
  have hz : vTp base (pm_up M m (.inr (12, moL (upF F 0 (.int 0))))) m t (upF F 0 (.int 0)) l := ⟨pm_up_self _ _ _, (upF_n F _ (by decide)).trans w2, (upF_n F _ (by decide)).trans w3, w4, w5, w6, w7, g, (pm_up_ne _ _ w7.symm).trans w8, w9⟩
  refine ⟨Nat.le_of_ble_eq_true rfl, fun G hG => ?_⟩
  refine pgs hG rfl rfl ?_
  refine pgs hG rfl rfl ?_
  refine pg_pm hG rfl rfl w1 w5 rfl rfl rfl ?_
  refine pgs hG rfl rfl ?_
  refine pg_gm hG rfl rfl hz.1 rfl hz.2.2.1 ?_
  refine pgs hG rfl rfl ?_
  refine pgs hG rfl rfl ?_
  refine pgs hG rfl rfl ?_
  have e1 : nI l.length + (Int8.ofInt 20).toInt32 = nI (l.length + 20) := by rw [show (Int8.ofInt 20).toInt32 = nI 20 from by decide, nI_add]
  have e2 : (Int16.ofInt 4096).toInt32 = nI 4096 := by decide
  rw [e1, e2]
  refine pi_le hG (t := 20) rfl rfl (fun c1 => ?_) (fun c1 => ?_)
  · have hle : l.length + 20 ≤ 4096 := by
      rcases Nat.lt_or_ge 4096 (l.length + 20) with h | h
      · exact absurd c1 (nI_ge h (by omega))
      · exact h
    refine pgs hG rfl rfl ?_
    refine pgs hG rfl rfl ?_
    refine pg_cal hG 0 rfl rfl (Nat.le_of_ble_eq_true rfl) (by decide) (Nat.le_of_ble_eq_true rfl) ?_
    refine pm_rcv_of (As' := [.int a1]) hz.1 (v_Mo_lay base sa hz (by omega) ?_)
    intro M1 hv1 hM1
    refine pgs hG rfl rfl ?_
    refine pgs hG rfl rfl ?_
    refine pg_cal hG 0 rfl rfl (Nat.le_of_ble_eq_true rfl) (by decide) (Nat.le_of_ble_eq_true rfl) ?_
    refine pm_rcv_of (As' := [.int a2]) hv1.1 (v_Mo_lay base sa hv1 (by simp only [List.length_append, moB_len]; omega) ?_)
    intro M2 hv2 hM2
    refine pgs hG rfl rfl ?_
    refine pgs hG rfl rfl ?_
    refine pg_cal hG 0 rfl rfl (Nat.le_of_ble_eq_true rfl) (by decide) (Nat.le_of_ble_eq_true rfl) ?_
    refine pm_rcv_of (As' := [.int a3]) hv2.1 (v_Mo_lay base sa hv2 (by simp only [List.length_append, moB_len]; omega) ?_)
    intro M3 hv3 hM3
    refine pgs hG rfl rfl ?_
    refine pgs hG rfl rfl ?_
    refine pg_cal hG 0 rfl rfl (Nat.le_of_ble_eq_true rfl) (by decide) (Nat.le_of_ble_eq_true rfl) ?_
    refine pm_rcv_of (As' := [.int a4]) hv3.1 (v_Mo_lay base sa hv3 (by simp only [List.length_append, moB_len]; omega) ?_)
    intro M4 hv4 hM4
    refine pgs hG rfl rfl ?_
    refine pgs hG rfl rfl ?_
    refine pg_cal hG 0 rfl rfl (Nat.le_of_ble_eq_true rfl) (by decide) (Nat.le_of_ble_eq_true rfl) ?_
    refine pm_rcv_of (As' := [.int a5]) hv4.1 (v_Mo_lay base sa hv4 (by simp only [List.length_append, moB_len]; omega) ?_)
    intro M5 hv5 hM5
    refine pgs hG rfl rfl ?_
    refine pg_ri hG rfl rfl rfl (k1 hle M5 ?_ ?_)
    · simp only [upF_uu] at hv5
      have e3 : ((((l ++ moB a1 4) ++ moB a2 4) ++ moB a3 4) ++ moB a4 4).length + 4 = l.length + 20 := by
        simp only [List.length_append, moB_len]
      rw [e3] at hv5
      exact hv5
    · intro a ha1 ha2
      rw [hM5 a ha1 ha2, hM4 a ha1 ha2, hM3 a ha1 ha2, hM2 a ha1 ha2, hM1 a ha1 ha2, pm_up_ne _ _ ha1]
  · refine pgs hG rfl rfl ?_
    refine pg_ri hG rfl rfl rfl (k0 ?_)
    rcases Nat.lt_or_ge 4096 (l.length + 20) with h | h
    · exact h
    · exact absurd (nI_le h (by omega)) c1
