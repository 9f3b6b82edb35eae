/-! The model's constructor: its blocks, one behind the other. -/
def pm_ups (M : pmM) (l : List (Nat × pmE)) : pmM := l.foldl (fun M q => pm_up M q.1 q.2) M
theorem pm_ups_app (M : pmM) (l : List (Nat × pmE)) (q : Nat) (e : pmE) : pm_ups M (l ++ [(q, e)]) = pm_up (pm_ups M l) q e := by
  unfold pm_ups
  rw [List.foldl_append]
  rfl
theorem pm_ups_fr : ∀ (l : List (Nat × pmE)) (M : pmM) {q : Nat}, pm_ups M l q = none → M q = none ∧ ∀ p ∈ l, p.1 ≠ q
  | [], M, q, h => ⟨h, fun p hp => absurd hp List.not_mem_nil⟩
  | p :: l, M, q, h => by
    obtain ⟨h1, h2⟩ := pm_ups_fr l (pm_up M p.1 p.2) h
    obtain ⟨h3, h4⟩ := pm_fr h1
    exact ⟨h4, List.forall_mem_cons.mpr ⟨h3.symm, h2⟩⟩
/-- an array's block: its type, how many, the field, how long the push is, the field's number in the pool, the elements' type -/
abbrev moE : Type := ArrayType × Nat × Nat × Nat × Nat × FieldType
def moPush (ci : Nat → Option Int32) (ins : Instr) (n len : Nat) : Bool := match ins with
  | .iconst z => decide (Int32.ofInt z = nI n) && decide (len = 1)
  | .bipush z => decide ((Int8.ofInt z).toInt32 = nI n) && decide (len = 2)
  | .sipush z => decide ((Int16.ofInt z).toInt32 = nI n) && decide (len = 3)
  | .ldc i => decide (ci i = some (nI n)) && decide (len = 2)
  | .ldc_w i => decide (ci i = some (nI n)) && decide (len = 3)
  | _ => false
def moPushAt (code : Nat → Option Instr) (ci : Nat → Option Int32) (pc n len : Nat) : Bool := match code pc with
  | some ins => moPush ci ins n len
  | none => false
def moRun (code : Nat → Option Instr) (fld : Nat → Option (Nat × Nat × FieldType × Bool)) (ci : Nat → Option Int32) : Nat → List moE → Nat → Bool
  | pc, [], pce => decide (pc = pce)
  | pc, (t, n, k, len, i, u) :: r, pce => decide (code pc = some (.aload_n 0)) && moPushAt code ci (pc + 1) n len && decide (code (pc + 1 + len) = some (.newarray t)) && decide (code (pc + 1 + len + 2) = some (.putfield i)) && decide (fld i = some (12, k, .array u, true)) && pm_nar t && decide (n ≤ 4000000) && decide (k < 166) && moRun code fld ci (pc + 1 + len + 2 + 3) r pce
def moSum : List moE → Nat
  | [] => 0
  | e :: r => e.2.1 + moSum r
def moCells : List moE → List Nat → List (Nat × pmE)
  | e :: r, q :: qs => (q, .inl (newarray.typeOf e.1, e.2.1, pm_zero e.1)) :: moCells r qs
  | _, _ => []
def moFs (F : Nat → Value) : List moE → List Nat → Nat → Value
  | e :: r, q :: qs => moFs (upF F e.2.2.1 (.ref q)) r qs
  | _, _ => F
def moFresh (base : Nat) (M : pmM) (m : Nat) (l : List (Nat × pmE)) (qs : List Nat) : Prop := (∀ q ∈ qs, base ≤ q ∧ M q = none ∧ q ≠ m ∧ ∀ p ∈ l, p.1 ≠ q) ∧ qs.Nodup
section MoRun
variable {cl : List vw_C} {base : Nat} {X : pmX} {Rt : pmR} {G : pmK}
theorem pg_push (hG : pm_cl cl base X Rt G) {pc n len : Nat} {L : pmL} {st : List Value} {M : pmM} {kc ks : Nat} (h0 : moPushAt X.code X.ci pc n len = true) (h : G (pc + len) L (.int (nI n) :: st) M kc ks) : G pc L st M kc ks := by
  unfold moPushAt at h0
  cases hc : X.code pc with
  | none => rw [hc] at h0; cases h0
  | some ins =>
    rw [hc] at h0
    have h0 : moPush X.ci ins n len = true := h0
    refine hG.1 _ _ _ _ _ _ _ hc ?_
    cases ins with
    | iconst z =>
      simp only [moPush, Bool.and_eq_true, decide_eq_true_eq] at h0
      obtain ⟨e1, rfl⟩ := h0
      show G _ _ (.int (Int32.ofInt _) :: st) _ _ _
      rw [e1]; exact h
    | bipush z =>
      simp only [moPush, Bool.and_eq_true, decide_eq_true_eq] at h0
      obtain ⟨e1, rfl⟩ := h0
      show G _ _ (.int (Int8.ofInt _).toInt32 :: st) _ _ _
      rw [e1]; exact h
    | sipush z =>
      simp only [moPush, Bool.and_eq_true, decide_eq_true_eq] at h0
      obtain ⟨e1, rfl⟩ := h0
      show G _ _ (.int (Int16.ofInt _).toInt32 :: st) _ _ _
      rw [e1]; exact h
    | ldc i =>
      simp only [moPush, Bool.and_eq_true, decide_eq_true_eq] at h0
      obtain ⟨e1, rfl⟩ := h0
      exact Or.inl ⟨_, e1, h⟩
    | ldc_w i =>
      simp only [moPush, Bool.and_eq_true, decide_eq_true_eq] at h0
      obtain ⟨e1, rfl⟩ := h0
      exact Or.inl ⟨_, e1, h⟩
    | _ => cases h0
theorem mo_run (hG : pm_cl cl base X Rt G) {m : Nat} {M : pmM} (hbm : base ≤ m) : ∀ (tab : List moE) (pc pce : Nat) (l : List (Nat × pmE)) (F : Nat → Value) (kc ks : Nat), moRun X.code X.fld X.ci pc tab pce = true → tab.length ≤ kc → moSum tab ≤ ks →
    (∀ qs : List Nat, qs.length = tab.length → moFresh base M m l qs → G pce [(0, .ref m)] [] (pm_up (pm_ups M (l ++ moCells tab qs)) m (.inr (12, moL (moFs F tab qs)))) (kc - tab.length) (ks - moSum tab)) → G pc [(0, .ref m)] [] (pm_up (pm_ups M l) m (.inr (12, moL F))) kc ks := by
  intro tab
  induction tab with
  | nil =>
    intro pc pce l F kc ks hr hc hs h
    have e : pc = pce := of_decide_eq_true hr
    subst e
    have r := h [] rfl ⟨fun q hq => absurd hq List.not_mem_nil, List.nodup_nil⟩
    simp only [moCells, moFs, List.append_nil, List.length_nil, moSum, Nat.sub_zero] at r
    exact r
  | cons e r ih =>
    intro pc pce l F kc ks hr hc hs h
    obtain ⟨t, n, k, len, i, u⟩ := e
    simp only [moRun, Bool.and_eq_true, decide_eq_true_eq] at hr
    obtain ⟨⟨⟨⟨⟨⟨⟨⟨c1, c2⟩, c3⟩, c4⟩, c5⟩, c6⟩, c7⟩, c8⟩, c9⟩ := hr
    rw [List.length_cons] at hc
    have hs' : n + moSum r ≤ ks := hs
    refine pg_ar hG c1 rfl ?_
    refine pg_push hG c2 ?_
    refine pg_nar hG c3 c6 c7 (by omega) (by omega) (fun q hq hbq => ?_)
    obtain ⟨hqm, hq⟩ := pm_fr hq
    obtain ⟨hqM, hql⟩ := pm_ups_fr l M hq
    rw [pm_co _ hqm.symm, ← pm_ups_app]
    refine pg_pm hG c4 c5 (pm_up_self _ _ _) hbm (Nat.ble_eq_true_of_le c8) rfl rfl ?_
    rw [pm_uu]
    refine ih _ pce _ _ (kc - 1) (ks - n) c9 (by omega) (by omega) ?_
    intro qs hqs hf
    have r2 := h (q :: qs) (by rw [List.length_cons, List.length_cons, hqs]) ⟨List.forall_mem_cons.mpr ⟨⟨hbq, hqM, hqm, hql⟩, fun q' hq' => ?_⟩, List.nodup_cons.mpr ⟨?_, hf.2⟩⟩
    · simp only [moCells, moFs, List.length_cons, moSum] at r2
      rw [List.append_assoc, List.singleton_append]
      rw [show kc - 1 - r.length = kc - (r.length + 1) by omega, show ks - n - moSum r = ks - (n + moSum r) by omega]
      exact r2
    · obtain ⟨a1, a2, a3, a4⟩ := hf.1 q' hq'
      exact ⟨a1, a2, a3, fun p hp => a4 p (List.mem_append_left _ hp)⟩
    · intro hq'
      obtain ⟨-, -, -, a4⟩ := hf.1 q hq'
      exact a4 (q, _) (List.mem_append_right _ (List.mem_singleton.mpr rfl)) rfl
end MoRun
def moTab : List moE := [(.int, 4096, 2, 3, 7, .int), (.int, 4096, 5, 3, 13, .int), (.int, 4096, 7, 3, 16, .int), (.int, 2100, 9, 3, 19, .int), (.int, 2100, 10, 3, 22, .int), (.int, 8, 16, 2, 25, .int), (.long, 10, 18, 2, 28, .long), (.int, 10, 19, 2, 32, .int), (.int, 10, 20, 2, 35, .int), (.int, 10, 21, 2, 38, .int), (.boolean, 10, 22, 2, 41, .boolean), (.int, 10, 23, 2, 45, .int), (.int, 10, 24, 2, 48, .int), (.int, 10, 25, 2, 51, .int), (.int, 7000, 26, 3, 54, .int), (.long, 8, 28, 2, 57, .long), (.int, 8, 29, 2, 60, .int), (.boolean, 128, 30, 3, 63, .boolean), (.int, 128, 31, 3, 66, .int), (.long, 128, 32, 3, 69, .long), (.long, 128, 33, 3, 72, .long), (.int, 128, 34, 3, 75, .int), (.int, 128, 35, 3, 78, .int), (.int, 128, 36, 3, 81, .int), (.long, 6, 38, 2, 84, .long), (.boolean, 6, 39, 2, 87, .boolean), (.int, 6, 40, 2, 90, .int), (.int, 6, 41, 2, 93, .int), (.int, 6, 42, 2, 96, .int), (.int, 6, 43, 2, 99, .int), (.int, 6, 44, 2, 102, .int), (.int, 66, 45, 2, 105, .int), (.int, 6, 46, 2, 108, .int), (.int, 192, 47, 3, 111, .int), (.long, 192, 48, 3, 114, .long), (.long, 192, 49, 3, 117, .long), (.int, 192, 50, 3, 120, .int), (.int, 192, 51, 3, 123, .int), (.int, 192, 52, 3, 126, .int), (.int, 12, 53, 2, 129, .int), (.int, 384, 54, 3, 132, .int), (.long, 384, 55, 3, 135, .long), (.long, 384, 56, 3, 138, .long), (.int, 384, 57, 3, 141, .int), (.boolean, 384, 58, 3, 144, .boolean), (.int, 6, 59, 2, 147, .int), (.int, 48, 60, 2, 150, .int), (.int, 48, 61, 2, 153, .int), (.int, 48, 62, 2, 156, .int), (.int, 6, 63, 2, 159, .int), (.int, 48, 64, 2, 162, .int), (.int, 48, 65, 2, 165, .int), (.int, 48, 66, 2, 168, .int), (.int, 48, 67, 2, 171, .int), (.int, 12, 68, 2, 174, .int), (.int, 12, 69, 2, 177, .int), (.int, 6, 70, 2, 180, .int), (.int, 24, 71, 2, 183, .int), (.int, 24, 72, 2, 186, .int), (.long, 24, 73, 2, 189, .long), (.boolean, 24, 74, 2, 192, .boolean), (.boolean, 48, 75, 2, 195, .boolean), (.long, 48, 76, 2, 198, .long), (.long, 48, 77, 2, 201, .long), (.int, 48, 78, 2, 204, .int), (.int, 24, 79, 2, 207, .int), (.int, 24, 80, 2, 210, .int), (.int, 384, 81, 3, 213, .int), (.int, 24, 82, 2, 216, .int), (.int, 96, 83, 2, 219, .int), (.boolean, 96, 84, 2, 222, .boolean), (.int, 96, 85, 2, 225, .int), (.int, 1536, 86, 3, 228, .int), (.int, 96, 87, 2, 231, .int), (.int, 96, 88, 2, 234, .int), (.int, 24, 89, 2, 237, .int), (.int, 24, 90, 2, 240, .int), (.int, 96, 91, 2, 243, .int), (.long, 96, 92, 2, 246, .long), (.long, 96, 93, 2, 249, .long), (.int, 96, 94, 2, 252, .int), (.int, 24, 95, 2, 255, .int), (.int, 96, 96, 2, 258, .int), (.long, 96, 97, 2, 261, .long), (.long, 96, 98, 2, 264, .long), (.int, 24, 99, 2, 267, .int), (.boolean, 24, 100, 2, 270, .boolean), (.int, 64, 102, 2, 273, .int), (.long, 64, 103, 2, 276, .long), (.long, 64, 104, 2, 279, .long), (.int, 6, 105, 2, 282, .int), (.int, 16200, 106, 3, 285, .int), (.long, 16200, 107, 3, 288, .long), (.long, 16200, 108, 3, 291, .long), (.int, 16200, 109, 3, 294, .int), (.int, 16200, 110, 3, 297, .int), (.int, 16200, 111, 3, 300, .int), (.int, 16200, 112, 3, 303, .int), (.int, 16200, 113, 3, 306, .int), (.long, 16200, 114, 3, 309, .long), (.long, 16200, 115, 3, 312, .long), (.int, 16200, 116, 3, 315, .int), (.long, 16200, 117, 3, 318, .long), (.long, 16200, 118, 3, 321, .long), (.boolean, 16200, 119, 3, 324, .boolean), (.int, 16200, 120, 3, 327, .int), (.int, 16200, 121, 3, 330, .int), (.int, 16200, 122, 3, 333, .int), (.int, 256, 124, 3, 336, .int), (.boolean, 256, 125, 3, 339, .boolean), (.int, 256, 126, 3, 342, .int), (.int, 256, 127, 3, 345, .int), (.boolean, 256, 128, 3, 348, .boolean), (.long, 256, 129, 3, 351, .long), (.long, 256, 130, 3, 354, .long), (.int, 256, 131, 3, 357, .int), (.long, 256, 132, 3, 360, .long), (.long, 256, 133, 3, 363, .long), (.int, 256, 134, 3, 366, .int), (.int, 256, 135, 3, 369, .int), (.int, 256, 136, 3, 372, .int), (.int, 256, 137, 3, 375, .int), (.int, 179200, 138, 3, 379, .int), (.long, 2800, 140, 3, 382, .long), (.long, 2800, 141, 3, 385, .long), (.int, 2800, 142, 3, 388, .int), (.int, 2800, 143, 3, 391, .int), (.int, 2800, 144, 3, 394, .int), (.int, 700, 146, 3, 397, .int), (.int, 700, 147, 3, 400, .int), (.int, 700, 149, 3, 403, .int), (.int, 4, 151, 1, 406, .int), (.boolean, 4, 152, 1, 409, .boolean), (.int, 832, 157, 3, 412, .int), (.int, 80, 158, 2, 415, .int), (.int, 5, 159, 1, 418, .int), (.int, 20, 160, 2, 421, .int), (.long, 6, 161, 2, 424, .long)]
set_option maxRecDepth 100000 in
theorem moTab_ok : moRun (pm_look kC_Mo_init) (kfld kF_Mo true) (kci kI_Mo) 4 moTab 1172 = true := by decide +kernel
set_option maxRecDepth 100000 in
theorem moTab_len : moTab.length = 138 ∧ moSum moTab = 507049 := by decide +kernel
set_option maxRecDepth 100000 in
/-- the model's constructor: an array for each of its array fields, all of 0s; the other fields stay -/
theorem s_Mo_init (base : Nat) (sa : Nat → Nat) {m : Nat} {M : pmM} {F : Nat → Value} {Rt : pmR} {kc ks : Nat} (hbm : base ≤ m) (h1 : 138 ≤ kc) (h2 : 507049 ≤ ks)
    (k : ∀ qs : List Nat, qs.length = 138 → moFresh base M m [] qs → Rt none (pm_up (pm_ups M (moCells moTab qs)) m (.inr (12, moL (moFs F moTab qs)))) (kc - 138) (ks - 507049)) : kP_Mo_init base sa [.ref m] (pm_up M m (.inr (12, moL F))) kc ks Rt := by
  refine ⟨Nat.le_of_ble_eq_true rfl, fun G hG => ?_⟩
  refine pgs hG rfl rfl ?_
  refine pg_cal hG 1 rfl rfl (Nat.le_of_ble_eq_true rfl) (by decide) (Nat.le_of_ble_eq_true rfl) ⟨m, rfl, ?_⟩
  have r := mo_run (M := M) hG hbm moTab 4 1172 [] F kc ks moTab_ok (by rw [moTab_len.1]; exact h1) (by rw [moTab_len.2]; exact h2) (fun qs hq hf => by
    rw [moTab_len.1] at hq ⊢
    rw [moTab_len.2]
    exact pg_rv hG rfl rfl (k qs hq hf))
  exact r
