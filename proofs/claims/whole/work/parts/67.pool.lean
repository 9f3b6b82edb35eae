theorem pm_look_mem {α : Type} {l : List (Nat × α)} {i : Nat} {v : α} (h : pm_look l i = some v) : (i, v) ∈ l := by
  induction l with
  | nil => cases h
  | cons q r ih =>
    unfold pm_look at h
    by_cases hq : q.1 = i
    · rw [if_pos hq] at h
      cases h
      rw [← hq]
      exact List.mem_cons_self
    · rw [if_neg hq] at h
      exact List.mem_cons_of_mem _ (ih h)
theorem pm_look_all {α : Type} {l : List (Nat × α)} {P : Nat → α → Prop} (h : ∀ q ∈ l, P q.1 q.2) : ∀ i v, pm_look l i = some v → P i v := fun i v hv => h (i, v) (pm_look_mem hv)
theorem kc_all : ∀ (ci : Nat) (C : String) (T : u_T) (N : Nat), kcl[ci]? = some (C, T, N) → (∀ k, k < N → parseFieldDescriptor (T k).2.2.1 = some (kty ci k)) ∧ (∀ a, a < N → ∀ b, b < N → a ≠ b → (T a).2.1 ≠ (T b).2.1) ∧ ∀ w ∈ u_ws C T N, w ∈ pw_T := by
  intro ci C T N h
  match ci, h with
  | 0, h => cases h; exact ⟨kY_By_ok, kN_By, kL_By⟩
  | 1, h => cases h; exact ⟨kY_Ch_ok, kN_Ch, kL_Ch⟩
  | 2, h => cases h; exact ⟨kY_Da_ok, kN_Da, kL_Da⟩
  | 3, h => cases h; exact ⟨kY_Li_ok, kN_Li, kL_Li⟩
  | 4, h => cases h; exact ⟨kY_Po_ok, kN_Po, kL_Po⟩
  | 5, h => cases h; exact ⟨kY_Pr_ok, kN_Pr, kL_Pr⟩
  | 6, h => cases h; exact ⟨kY_Pl_ok, kN_Pl, kL_Pl⟩
  | 7, h => cases h; exact ⟨kY_Re_ok, kN_Re, kL_Re⟩
  | 8, h => cases h; exact ⟨kY_Ro_ok, kN_Ro, kL_Ro⟩
  | 9, h => cases h; exact ⟨kY_Rr_ok, kN_Rr, kL_Rr⟩
  | 10, h => cases h; exact ⟨kY_Ta_ok, kN_Ta, kL_Ta⟩
  | 11, h => cases h; exact ⟨kY_Rf_ok, kN_Rf, kL_Rf⟩
  | 12, h => cases h; exact ⟨kY_Mo_ok, kN_Mo, kL_Mo⟩
  | 13, h => cases h; exact ⟨kY_St_ok, kN_St, kL_St⟩
  | 14, h => cases h; exact ⟨kY_Ns_ok, kN_Ns, kL_Ns⟩
  | n + 15, h => simp [kcl] at h
theorem kf_use {own : String} {args : Array Value} {s : State} {base : Nat} {sa : Nat → Nat} {H : Heap} {i j : Nat} {nest : Bool} {q : String × String × String × Bool} (hts : ∀ w ∈ pw_T, w.before args s = true) (hZ : pm_Z base (kZ sa) s H) (h : tables_1[j]? = some (kf_link own i nest q)) (hn : nest = true → (own, i, q.1, q.2.1, q.2.2.1, "RoutingField") ∈ kZ3) : (Cond.fieldLink own i q.1 q.2.1 q.2.2.1).before args s = true ∧ nest = false ∨ (Cond.fieldLinkNest own i q.1 q.2.1 q.2.2.1 "RoutingField").before args s = true := by
  cases nest with
  | true => exact Or.inr (va_Nw.use rfl (hZ.2.2.1 _ (hn rfl)))
  | false => exact Or.inl ⟨hts _ (pw_in j h rfl), rfl⟩
theorem kf_ok {own : String} {meth : Method} {args : Array Value} {s : State} {base : Nat} {sa : Nat → Nat} {H : Heap} {l : List (Nat × kfE)} {init : Bool} (hts : ∀ w ∈ pw_T, w.before args s = true) (hZ : pm_Z base (kZ sa) s H) (h : ∀ q ∈ l, kf_chk own q = true) (hi : init = true → meth.name = "<init>") : ∀ i f, kfld l init i = some f → pm_fok kcl own meth args s i f := by
  intro i f hf
  unfold kfld at hf
  cases hq : pm_look l i with
  | none => rw [hq] at hf; cases hf
  | some q =>
    rw [hq] at hf
    cases hf
    have hc := h (i, q) (pm_look_mem hq)
    unfold kf_chk at hc
    cases hk : kcl[q.1.1]? with
    | none => simp only [hk] at hc; cases hc
    | some r =>
      obtain ⟨C, T, N⟩ := r
      simp only [hk, Bool.and_eq_true, decide_eq_true_eq] at hc
      obtain ⟨⟨⟨⟨⟨c1, c2⟩, c3⟩, c4⟩, c5⟩, c6⟩ := hc
      obtain ⟨a1, a2, a3⟩ := kc_all _ _ _ _ hk
      have hw := kf_use hts hZ c5 (fun hn => by
        rw [hn] at c6
        simpa using c6)
      refine ⟨C, T, N, kty q.1.1, pw_T, hk, c1, hts, a3, a1, a2, c2, ?_, ?_⟩
      · rcases hw with hw | hw
        · exact Or.inl hw.1
        · exact Or.inr ⟨_, hw⟩
      · intro hwr
        have c3' : (T q.1.2.1).2.2.2 = !q.1.2.2.2 := by simpa using c3
        by_cases hfin : q.1.2.2.2 = true
        · left
          rw [c3', hfin]
          rfl
        · have hfin2 : q.1.2.2.2 = false := by simpa using hfin
          have hwr : (q.1.2.2.2 || (init && q.2.2.2)) = true := hwr
          rw [hfin2, Bool.false_or, Bool.and_eq_true] at hwr
          right
          rw [hwr.2] at c4
          simp only [Bool.not_true, Bool.false_or, Bool.and_eq_true, decide_eq_true_eq, Bool.not_eq_true'] at c4
          refine ⟨by rw [c3', hfin2]; rfl, hi hwr.1, c4.1, ?_⟩
          have c5' := c5
          rw [c4.2] at c5'
          exact hts _ (pw_in _ c5' rfl)
theorem km_ok {own : String} {args : Array Value} {s : State} {l : List (Nat × kmE)} (hts : ∀ w ∈ pw_T, w.before args s = true) (h : ∀ q ∈ l, km_chk own q = true) : ∀ i o, kmk l i = some o → pm_nok kcl own args s i o := by
  intro i o ho
  unfold kmk at ho
  cases hq : pm_look l i with
  | none => rw [hq] at ho; cases ho
  | some q =>
    rw [hq] at ho
    cases ho
    have hc := h (i, q) (pm_look_mem hq)
    unfold km_chk at hc
    cases hk : kcl[q.1.1]? with
    | none => simp only [hk] at hc; cases hc
    | some r =>
      obtain ⟨C, T, N⟩ := r
      simp only [hk, Bool.and_eq_true, decide_eq_true_eq] at hc
      obtain ⟨⟨⟨⟨c1, c2⟩, c3⟩, c4⟩, c5⟩ := hc
      subst c1
      obtain ⟨a1, a2, a3⟩ := kc_all _ _ _ _ hk
      exact ⟨C, T, kty q.1.1, pw_T, hk, hts, a3, a1, hts _ (pw_in _ c2 rfl), hts _ (pw_in _ c3 rfl), hts _ (pw_in _ c4 rfl), fun j hj => of_decide_eq_true (List.all_eq_true.mp c5 j (List.mem_range.mpr hj))⟩
theorem kci_ok {own : String} {args : Array Value} {s : State} {l : List (Nat × Int32 × Nat)} (hts : ∀ w ∈ pw_T, w.before args s = true) (h : ∀ q ∈ l, tables_1[q.2.2]? = some (.constant own q.1 q.2.1)) : ∀ i v, kci l i = some v → (Jvm.Cond.constant own i v).before args s = true := by
  intro i v hv
  unfold kci at hv
  cases hq : pm_look l i with
  | none => rw [hq] at hv; cases hv
  | some q =>
    rw [hq] at hv
    cases hv
    exact hts _ (pw_in _ (h (i, q) (pm_look_mem hq)) rfl)
theorem kli_ok {own : String} {args : Array Value} {s : State} {l : List (Nat × Int64 × Nat)} (hts : ∀ w ∈ pw_T, w.before args s = true) (h : ∀ q ∈ l, tables_1[q.2.2]? = some (.constantLong own q.1 q.2.1)) : ∀ i v, kli l i = some v → (Jvm.Cond.constantLong own i v).before args s = true := by
  intro i v hv
  unfold kli at hv
  cases hq : pm_look l i with
  | none => rw [hq] at hv; cases hv
  | some q =>
    rw [hq] at hv
    cases hv
    exact hts _ (pw_in _ (h (i, q) (pm_look_mem hq)) rfl)
theorem kar_ok {own : String} {args : Array Value} {s : State} {base : Nat} {sa : Nat → Nat} {H : Heap} {l : List (Nat × String × Nat × Nat)} (hts : ∀ w ∈ pw_T, w.before args s = true) (hZ : pm_Z base (kZ sa) s H) (h : ∀ q ∈ l, tables_1[q.2.2.1]? = some (.classLink own q.1 q.2.1) ∧ q.2.1 ∈ kZ5) : ∀ i C, kar l i = some C → (Cond.classLink own i C).before args s = true ∧ va_AO C s := by
  intro i C hC
  unfold kar at hC
  cases hq : pm_look l i with
  | none => rw [hq] at hC; cases hC
  | some q =>
    rw [hq] at hC
    cases hC
    obtain ⟨h1, h2⟩ := h (i, q) (pm_look_mem hq)
    exact ⟨hts _ (pw_in _ h1 rfl), hZ.2.2.2.2.1 _ h2⟩
theorem kst_ok {own : String} {args : Array Value} {s : State} {base : Nat} {sa : Nat → Nat} {H : Heap} {l : List (Nat × ksE)} (hts : ∀ w ∈ pw_T, w.before args s = true) (hZ : pm_Z base (kZ sa) s H) (h : ∀ q ∈ l, tables_1[q.2.2.2.1]? = some (kf_link own q.1 q.2.2.2.2 (q.2.1.1, q.2.1.2.1, q.2.1.2.2, false)) ∧ (q.2.2.2.2 = true → (own, q.1, q.2.1.1, q.2.1.2.1, q.2.1.2.2, "RoutingField") ∈ kZ3) ∧ (q.2.1.1, q.2.1.2.1, q.2.1.2.2, q.2.2.1) ∈ (kZ sa).1) : ∀ i v, kst l i = some v → ∃ (C n d : String), (C, n, d, v) ∈ (kZ sa).1 ∧ ((Cond.fieldLink own i C n d).before args s = true ∨ ∃ host, (Cond.fieldLinkNest own i C n d host).before args s = true) := by
  intro i v hv
  unfold kst at hv
  cases hq : pm_look l i with
  | none => rw [hq] at hv; cases hv
  | some q =>
    rw [hq] at hv
    cases hv
    obtain ⟨h1, hn, h2⟩ := h (i, q) (pm_look_mem hq)
    refine ⟨_, _, _, h2, ?_⟩
    rcases kf_use hts hZ h1 hn with hw | hw
    · exact Or.inl hw.1
    · exact Or.inr ⟨_, hw⟩
theorem ktx_ok {own : String} {sa : Nat → Nat} {Z : pmZ} {l : List (Nat × String × Nat)} (h : ∀ q ∈ l, (own, q.1, q.2.1, sa q.2.2) ∈ Z.2.1) : ∀ i a, ktx sa l i = some a → ∃ tx, (own, i, tx, a) ∈ Z.2.1 := by
  intro i a ha
  unfold ktx at ha
  cases hq : pm_look l i with
  | none => rw [hq] at ha; cases ha
  | some q =>
    rw [hq] at ha
    cases ha
    exact ⟨_, h (i, q) (pm_look_mem hq)⟩
theorem knar_ok {args : Array Value} {s : State} (hts : ∀ w ∈ pw_T, w.before args s = true) : ∀ t : ArrayType, pm_nar t = true → (Cond.arrayClass (newarray.typeOf t)).before args s = true := by
  intro t ht
  cases t with
  | boolean => exact hts _ (pw_in 644 (by decide +kernel) rfl)
  | char => exact hts _ (pw_in 542 (by decide +kernel) rfl)
  | byte => exact hts _ (pw_in 52 (by decide +kernel) rfl)
  | int => exact hts _ (pw_in 346 (by decide +kernel) rfl)
  | long => exact hts _ (pw_in 2479 (by decide +kernel) rfl)
  | _ => cases ht
