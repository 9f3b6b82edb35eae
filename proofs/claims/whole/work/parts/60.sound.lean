/-! The picture and the heap; the machine does what 'pm_ins' says. -/
def pm_rel (tys : List (ClassId × FieldType)) (e : pmE) (v : va_E) : Prop := match e, v with
  | .inl x, .inl y => x.2 = y.2 ∧ ∃ t : Nat, tys[t]? = some (y.1, x.1)
  | .inr o, .inr o' => o = o'
  | _, _ => False
/-- an object that is there, of its kind: its fields -/
def pm_or (D : va_G) (cl : List vw_C) (H : Heap) (a : Nat) (o : Nat × List Value) : Prop := ∃ (r : vw_C) (cell : Cell), cl[o.1]? = some r ∧ H[a]? = some cell ∧ cell.cls = D.1 o.1 ∧ cell.vm ≠ .unknown ∧ cell.vm.isStatics = false ∧ ∀ k, k < r.2.2 → cell.slots[D.2 o.1 k]? = some (vp_V o.2 k)
theorem pm_or.of {D : va_G} {cl : List vw_C} {H : Heap} {a : Nat} {o : Nat × List Value} (h : va_at D cl (a, .inr o) H) : pm_or D cl H a o := by
  obtain ⟨r, h1, cell, q1, q2, q3, q4⟩ := h
  exact ⟨r, cell, h1, q1, q2, by rw [q3]; exact (fun h => by cases h), by rw [q3]; rfl, q4⟩
/-- what was there before all, and is only read -/
def pm_ro (D : va_G) (cl : List vw_C) (U : State) (H : Heap) (a : Nat) (e : pmE) : Prop := match e with
  | .inl (ty, n, .inl f) => ∃ cell : Cell, H[a]? = some cell ∧ U.isArrayOf cell ty ∧ cell.vm ≠ .unknown ∧ n ≤ cell.slots.size ∧ cell.slots.size.toInt32 = Int32.ofNat n ∧ ∀ j : Nat, j < n → cell.slots[j]? = some (.int (f j))
  | .inl _ => False
  | .inr o => pm_or D cl H a o
def pm_P (D : va_G) (cl : List vw_C) (base : Nat) (M : pmM) (U : State) (H : Heap) : Prop := ∃ (ws : va_W) (tys : List (ClassId × FieldType)), va_K D cl tys U ∧ va_P D cl ws H ∧ va_D (fun q => base ≤ q) ws ∧ ∀ (a : Nat) (e : pmE), M a = some e → (base ≤ a ∧ ∃ (k : Nat) (v : va_E), ws[k]? = some (a, v) ∧ pm_rel tys e v) ∨ (a < base ∧ pm_ro D cl U H a e)
theorem pm_ro.kept {D : va_G} {cl : List vw_C} {U : State} {H H1 : Heap} {a : Nat} {e : pmE} (h : pm_ro D cl U H a e) (hq : H1[a]? = H[a]?) : pm_ro D cl U H1 a e := by
  unfold pm_ro at h ⊢
  split at h
  · obtain ⟨cell, h1, h2⟩ := h
    exact ⟨cell, hq.trans h1, h2⟩
  · exact h.elim
  · obtain ⟨r, cell, h1, h2, h3⟩ := h
    exact ⟨r, cell, h1, hq.trans h2, h3⟩
theorem pm_ro.moved {D : va_G} {cl : List vw_C} {u U : State} {H : Heap} {a : Nat} {e : pmE} (hvm : u.vm.Alike U.vm) (h : pm_ro D cl u H a e) : pm_ro D cl U H a e := by
  unfold pm_ro at h ⊢
  split at h
  · obtain ⟨cell, h1, h2, h3⟩ := h
    exact ⟨cell, h1, State.isArrayOf_alike hvm h2, h3⟩
  · exact h.elim
  · exact h
theorem pm_P.moved {D : va_G} {cl : List vw_C} {base : Nat} {M : pmM} {u U : State} {H : Heap} (hvm : u.vm.Alike U.vm) (h : pm_P D cl base M u H) : pm_P D cl base M U H := by
  obtain ⟨ws, tys, hK, hP, hD, hM⟩ := h
  refine ⟨ws, tys, hK.moved hvm, hP, hD, fun a e he => ?_⟩
  rcases hM a e he with h | ⟨h1, h2⟩
  · exact Or.inl h
  · exact Or.inr ⟨h1, h2.moved hvm⟩
theorem pm_P.weak {D : va_G} {cl : List vw_C} {base : Nat} {M M' : pmM} {U : State} {H : Heap} (h : pm_P D cl base M U H) (hle : pm_le M' M) : pm_P D cl base M' U H := by
  obtain ⟨ws, tys, hK, hP, hD, hM⟩ := h
  exact ⟨ws, tys, hK, hP, hD, fun a e he => hM a e (hle a e he)⟩
theorem pm_rel_o {tys : List (ClassId × FieldType)} {o : Nat × List Value} : pm_rel tys (.inr o) (.inr o) := rfl
theorem pm_rel_a {tys : List (ClassId × FieldType)} {t : Nat} {cA : ClassId} {ty : FieldType} {x : vp_A} (h : tys[t]? = some (cA, ty)) : pm_rel tys (.inl (ty, x)) (.inl (cA, x)) := ⟨rfl, t, h⟩
theorem pm_rel.app {tys t2 : List (ClassId × FieldType)} {e : pmE} {v : va_E} (h : pm_rel tys e v) : pm_rel (tys ++ t2) e v := by
  unfold pm_rel at h ⊢
  split at h
  · obtain ⟨h1, t, ht⟩ := h
    exact ⟨h1, t, by rw [List.getElem?_append_left (List.getElem?_eq_some_iff.mp ht).1]; exact ht⟩
  · exact h
  · exact h.elim
/-- an object, read -/
theorem pm_P.ob {D : va_G} {cl : List vw_C} {base : Nat} {M : pmM} {U : State} {H : Heap} (h : pm_P D cl base M U H) {a : Nat} {o : Nat × List Value} (hM : M a = some (.inr o)) : ∃ tys, va_K D cl tys U ∧ pm_or D cl H a o := by
  obtain ⟨ws, tys, hK, hP, hD, hq⟩ := h
  refine ⟨tys, hK, ?_⟩
  rcases hq a _ hM with ⟨-, k, v, hk2, hv⟩ | ⟨-, hr⟩
  · cases v with
    | inl x => exact hv.elim
    | inr o' =>
      have e : o = o' := hv
      subst e
      exact pm_or.of (hP k _ hk2)
  · exact hr
/-- a receiver -/
theorem pm_recv {s : State} {H : Heap} {D : va_G} {cl : List vw_C} {a ci : Nat} {q : vw_C} {fs : List Value} {tys : List (ClassId × FieldType)} (hK : va_K D cl tys s) (ho : pm_or D cl H a (ci, fs)) (hc : cl[ci]? = some q) : ∃ cell : Cell, H[a]? = some cell ∧ cell.vm.isStatics = false ∧ s.vm.findClass q.1 = some cell.cls := by
  obtain ⟨r, cell, h1, q1, q2, q3, q3', q4⟩ := ho
  obtain ⟨hS, hfc, kC, hkC, hkind⟩ := hK.1 ci _ hc
  exact ⟨cell, q1, q3', by rw [q2]; exact hfc⟩
/-- what is written: the picture with one cell else -/
theorem pm_P.set {D : va_G} {cl : List vw_C} {base : Nat} {M : pmM} {U : State} {H H1 : Heap} {ws : va_W} {tys : List (ClassId × FieldType)} (hK : va_K D cl tys U) (hM : ∀ (a : Nat) (e : pmE), M a = some e → (base ≤ a ∧ ∃ (k : Nat) (v : va_E), ws[k]? = some (a, v) ∧ pm_rel tys e v) ∨ (a < base ∧ pm_ro D cl U H a e)) {k a : Nat} {v0 v : va_E} {e : pmE} (hk : ws[k]? = some (a, v0)) (hb : base ≤ a) (hr : pm_rel tys e v) (hD : va_D (fun q => base ≤ q) (ws.set k (a, v))) (hP : va_P D cl (ws.set k (a, v)) H1) (hro : ∀ q, q < base → H1[q]? = H[q]?) : pm_P D cl base (pm_up M a e) U H1 := by
  refine ⟨ws.set k (a, v), tys, hK, hP, hD, fun b e2 he => ?_⟩
  have hl := (List.getElem?_eq_some_iff.mp hk).1
  by_cases hba : b = a
  · subst hba
    rw [pm_up_self] at he
    cases he
    exact Or.inl ⟨hb, k, v, List.getElem?_set_self hl, hr⟩
  · rw [pm_up_ne M e hba] at he
    rcases hM b e2 he with ⟨h1, k2, v2, h2, h3⟩ | ⟨h1, h2⟩
    · refine Or.inl ⟨h1, k2, v2, ?_, h3⟩
      rw [List.getElem?_set_ne ?_]
      · exact h2
      · intro q
        subst q
        rw [hk] at h2
        cases h2
        exact hba rfl
    · exact Or.inr ⟨h1, h2.kept (hro b h1)⟩
/-- what is new -/
theorem pm_P.push {D : va_G} {cl : List vw_C} {base : Nat} {M : pmM} {U : State} {H H1 : Heap} {ws : va_W} {tys t2 : List (ClassId × FieldType)} (hK : va_K D cl (tys ++ t2) U) (hM : ∀ (a : Nat) (e : pmE), M a = some e → (base ≤ a ∧ ∃ (k : Nat) (v : va_E), ws[k]? = some (a, v) ∧ pm_rel tys e v) ∨ (a < base ∧ pm_ro D cl U H a e)) {a : Nat} {v : va_E} {e : pmE} (hr : pm_rel (tys ++ t2) e v) (hD : va_D (fun q => base ≤ q) (ws ++ [(a, v)])) (hP : va_P D cl (ws ++ [(a, v)]) H1) (hro : ∀ q, q < base → H1[q]? = H[q]?) : M a = none ∧ base ≤ a ∧ pm_P D cl base (pm_up M a e) U H1 := by
  have hlast : (ws ++ [(a, v)])[ws.length]? = some (a, v) := by simp
  have hb : base ≤ a := hD.2 _ _ hlast
  refine ⟨?_, hb, ws ++ [(a, v)], tys ++ t2, hK, hP, hD, fun b e2 he => ?_⟩
  · cases hMa : M a with
    | none => rfl
    | some e2 =>
      exfalso
      rcases hM a e2 hMa with ⟨-, k, v2, h2, -⟩ | ⟨h1, -⟩
      · have hkl := (List.getElem?_eq_some_iff.mp h2).1
        have := hD.1 k ws.length (a, v2) (a, v) (by rw [List.getElem?_append_left hkl]; exact h2) hlast rfl
        omega
      · omega
  · by_cases hba : b = a
    · subst hba
      rw [pm_up_self] at he
      cases he
      exact Or.inl ⟨hb, ws.length, v, hlast, hr⟩
    · rw [pm_up_ne M e hba] at he
      rcases hM b e2 he with ⟨h1, k2, v2, h2, h3⟩ | ⟨h1, h2⟩
      · exact Or.inl ⟨h1, k2, v2, by rw [List.getElem?_append_left (List.getElem?_eq_some_iff.mp h2).1]; exact h2, h3.app⟩
      · exact Or.inr ⟨h1, h2.kept (hro b h1)⟩
theorem pm_get_at {ls : Array Slot} {nL : Nat} {L : pmL} (h : lv_has ls nL L) {i : Nat} {v : Value} (hg : pm_get L i = some v) : ls[i]? = some (.val v) := by
  have key : ∀ (L : pmL), pm_get L i = some v → (i, v) ∈ L := by
    intro L
    induction L with
    | nil => intro h; cases h
    | cons q r ih =>
      intro h
      unfold pm_get at h
      by_cases hq : q.1 = i
      · rw [if_pos hq] at h
        cases h
        rw [← hq]
        exact List.mem_cons_self
      · rw [if_neg hq] at h
        exact List.mem_cons_of_mem _ (ih h)
  exact h.2.2 (i, v) (key L hg)
theorem pm_get_k {L : pmL} {i : Nat} {v : Value} (hg : pm_get L i = some v) : ∃ k : Nat, L[k]? = some (i, v) := by
  induction L with
  | nil => cases hg
  | cons q r ih =>
    unfold pm_get at hg
    by_cases hq : q.1 = i
    · rw [if_pos hq] at hg
      cases hg
      exact ⟨0, by rw [← hq]; rfl⟩
    · rw [if_neg hq] at hg
      obtain ⟨k, hk⟩ := ih hg
      exact ⟨k + 1, hk⟩
/-- how long an instruction is -/
def pm_len (pc : Nat) (ins : Instr) : Nat := match ins with
  | .bipush _ => 2
  | .sipush _ => 3
  | .ldc _ => 2
  | .ldc_w _ => 3
  | .ldc2_w _ => 3
  | .iload _ => 2
  | .lload _ => 2
  | .aload _ => 2
  | .istore _ => 2
  | .lstore _ => 2
  | .astore _ => 2
  | .iinc _ _ => 3
  | .goto _ => 3
  | .ifCond _ _ => 3
  | .if_icmp _ _ => 3
  | .if_acmp _ _ => 3
  | .ifnull _ => 3
  | .ifnonnull _ => 3
  | .getfield _ => 3
  | .putfield _ => 3
  | .getstatic _ => 3
  | .putstatic _ => 3
  | .new _ => 3
  | .newarray _ => 2
  | .anewarray _ => 3
  | .multianewarray _ _ => 4
  | .invokevirtual _ => 3
  | .invokespecial _ => 3
  | .invokestatic _ => 3
  | .checkcast _ => 3
  | .instanceof _ => 3
  | .tableswitch _ _ _ offs => 1 + (3 - pc % 4) + 12 + 4 * offs.size
  | .lookupswitch _ ps => 1 + (3 - pc % 4) + 8 + 8 * ps.size
  | _ => 1
theorem pm_jmp {pc : Nat} {off : Int} (h : pm_jok pc off) : (pc : Int) + off = (pm_tgt pc off : Int) := (Int.toNat_of_nonneg h).symm
def pm_Z (base : Nat) (Z : pmZ) (U : State) (H : Heap) : Prop := (∀ q ∈ Z.1, va_Z q.1 q.2.1 q.2.2.1 q.2.2.2 (fun a => base ≤ a) U H) ∧ (∀ q ∈ Z.2.1, vk_R q.1 q.2.1 q.2.2.1 q.2.2.2 U) ∧ (∀ q ∈ Z.2.2.1, va_Nw (.fieldLinkNest q.1 q.2.1 q.2.2.1 q.2.2.2.1 q.2.2.2.2.1 q.2.2.2.2.2) U) ∧ (∀ q ∈ Z.2.2.2.1, va_Nw (.methodLinkNest q.1 q.2.1 q.2.2.1 q.2.2.2) U) ∧ (∀ C ∈ Z.2.2.2.2.1, va_AO C U) ∧ ∀ t ∈ Z.2.2.2.2.2, (Cond.arrayOver (.array t)).before #[] U = true
theorem pm_Z.warm {base : Nat} {Z : pmZ} {s U : State} {H : Heap} {locs : List Loc} (h : pm_Z base Z s s.heap) (hS : va_S (fun q => base ≤ q) s.heap H locs) (hU : U.heap = H) (hW : s.WarmedH U.vm) : pm_Z base Z U U.heap := by
  obtain ⟨h1, h2, h3, h4, h5, h6⟩ := h
  refine ⟨fun q hq => ?_, fun q hq => vk_R.warm hW (h2 q hq), fun q hq => va_Nw.warmF hW (h3 q hq), fun q hq => va_Nw.warmM hW (h4 q hq), fun q hq => va_AO.moved hW.alike (h5 q hq), fun q hq => Stand.arrayOver_alikeB hW.alike (h6 q hq)⟩
  rw [hU]
  exact va_Z.moved hW.alike ((h1 q hq).kept (fun a k1 k2 => hS.2.1 a k1 k2))
theorem pm_Z.called {base : Nat} {Z : pmZ} {U V : State} (h : pm_Z base Z U U.heap) (hv : V.vm = U.vm) (hH : V.heap = U.heap) : pm_Z base Z V V.heap := by
  obtain ⟨h1, h2, h3, h4, h5, h6⟩ := h
  have ha : U.vm.Alike V.vm := by rw [hv]; exact Vm.Alike.refl U.vm
  refine ⟨fun q hq => ?_, fun q hq => vk_R.same hv (h2 q hq), fun q hq => va_Nw.same rfl hv.symm (h3 q hq), fun q hq => va_Nw.same rfl hv.symm (h4 q hq), fun q hq => va_AO.moved ha (h5 q hq), fun q hq => Stand.arrayOver_alikeB ha (h6 q hq)⟩
  rw [hH]
  exact va_Z.moved ha (h1 q hq)
