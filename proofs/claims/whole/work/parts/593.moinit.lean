/-! The model's memory when it is made. -/
theorem moFs_not : ∀ (tab : List moE) (qs : List Nat) (F : Nat → Value) (k : Nat), (∀ e ∈ tab, e.2.2.1 ≠ k) → moFs F tab qs k = F k
  | [], _, F, k, _ => by unfold moFs; rfl
  | e :: r, [], F, k, _ => by unfold moFs; rfl
  | e :: r, q :: qs, F, k, h => by
    show moFs (upF F e.2.2.1 (.ref q)) r qs k = F k
    rw [moFs_not r qs _ k (fun x hx => h x (List.mem_cons_of_mem _ hx)), upF_n _ _ (fun z => h e List.mem_cons_self z.symm)]
theorem moFs_at : ∀ (tab : List moE) (qs : List Nat) (F : Nat → Value) (i : Nat) (e : moE), tab[i]? = some e → i < qs.length → (tab.map fun e => e.2.2.1).Nodup → moFs F tab qs e.2.2.1 = .ref (qs.getD i 0)
  | [], _, F, i, e, h, _, _ => by cases h
  | x :: r, [], F, i, e, _, h, _ => by cases h
  | x :: r, q :: qs, F, 0, e, h, _, hn => by
    cases h
    rw [List.map_cons, List.nodup_cons] at hn
    show moFs (upF F x.2.2.1 (.ref q)) r qs x.2.2.1 = .ref q
    rw [moFs_not r qs _ _ (fun y hy z => hn.1 (List.mem_map.mpr ⟨y, hy, z⟩)), upF_s]
  | x :: r, q :: qs, F, i + 1, e, h, hl, hn => by
    rw [List.map_cons, List.nodup_cons] at hn
    show moFs (upF F x.2.2.1 (.ref q)) r qs e.2.2.1 = .ref (qs.getD i 0)
    exact moFs_at r qs _ i e h (Nat.lt_of_succ_lt_succ hl) hn.2
theorem moCells_at : ∀ (tab : List moE) (qs : List Nat) (i : Nat) (e : moE), tab[i]? = some e → i < qs.length → (moCells tab qs)[i]? = some (qs.getD i 0, .inl (newarray.typeOf e.1, e.2.1, pm_zero e.1))
  | [], _, i, e, h, _ => by cases h
  | x :: r, [], i, e, _, h => by cases h
  | x :: r, q :: qs, 0, e, h, _ => by cases h; rfl
  | x :: r, q :: qs, i + 1, e, h, hl => moCells_at r qs i e h (Nat.lt_of_succ_lt_succ hl)
theorem moCells_keys : ∀ (tab : List moE) (qs : List Nat), qs.length = tab.length → (moCells tab qs).map (fun p => p.1) = qs
  | [], [], _ => rfl
  | [], q :: qs, h => by cases h
  | x :: r, [], h => by cases h
  | x :: r, q :: qs, h => by
    show q :: (moCells r qs).map (fun p => p.1) = q :: qs
    rw [moCells_keys r qs (Nat.succ.inj h)]
theorem pm_ups_not : ∀ (l : List (Nat × pmE)) (M : pmM) (a : Nat), (∀ p ∈ l, p.1 ≠ a) → pm_ups M l a = M a
  | [], M, a, _ => rfl
  | p :: l, M, a, h => by
    show pm_ups (pm_up M p.1 p.2) l a = M a
    rw [pm_ups_not l _ a (fun x hx => h x (List.mem_cons_of_mem _ hx)), pm_up_ne _ _ (fun z => h p List.mem_cons_self z.symm)]
theorem pm_ups_at : ∀ (l : List (Nat × pmE)) (M : pmM) (p : Nat × pmE), p ∈ l → (l.map fun p => p.1).Nodup → pm_ups M l p.1 = some p.2
  | [], M, p, h, _ => by cases h
  | x :: l, M, p, h, hn => by
    rw [List.map_cons, List.nodup_cons] at hn
    show pm_ups (pm_up M x.1 x.2) l p.1 = some p.2
    rcases List.mem_cons.mp h with rfl | h
    · rw [pm_ups_not l _ _ (fun y hy z => hn.1 (List.mem_map.mpr ⟨y, hy, z⟩)), pm_up_self]
    · exact pm_ups_at l _ p h hn.2
/-- how long the rows are at first -/
def moN0 (k : Nat) : Nat := ((moTab.find? (fun e => e.2.2.1 == k)).map fun e => e.2.1).getD 0
def moS0 : moS := (fun _ => 0, fun _ => 0, fun _ _ => 0, fun _ _ => 0, moN0)
/-- where a field's row stands -/
def moQs (ws : List Nat) (k : Nat) : Nat := ws.getD (moAr.idxOf k) 0
set_option maxRecDepth 100000 in
theorem moTab_ar : moTab.map (fun e => e.2.2.1) = moAr := by decide +kernel
set_option maxRecDepth 100000 in
theorem moTab_kd : ∀ e ∈ moTab, (e.1 = .int ∧ moKd e.2.2.1 = 2 ∨ e.1 = .boolean ∧ moKd e.2.2.1 = 3 ∨ e.1 = .long ∧ moKd e.2.2.1 = 4) ∧ moN0 e.2.2.1 = e.2.1 := by decide +kernel
set_option maxRecDepth 100000 in
theorem moF0_ok : ∀ k, k < 166 → k ∉ moAr → (moKd k = 0 ∧ moF0 k = .int 0 ∨ moKd k = 1 ∧ moF0 k = .long 0) := by decide +kernel
set_option maxRecDepth 100000 in
theorem moAr_nd : moAr.Nodup := List.Nodup.sublist List.filter_sublist List.nodup_range
set_option maxRecDepth 100000 in
theorem moM_init {base m : Nat} {M : pmM} {ws : List Nat} (hbm : base ≤ m) (hl : ws.length = 138) (hf : moFresh base M m [] ws) : moQ base m (moQs ws) ∧ pm_up (pm_ups M (moCells moTab ws)) m (.inr (12, moL (moFs moF0 moTab ws))) = moM M m (moQs ws) moS0 := by
  have htl : moTab.length = 138 := rfl
  have hnd : (moTab.map fun e => e.2.2.1).Nodup := by rw [moTab_ar]; exact moAr_nd
  have har : moAr.length = 138 := by rw [← moTab_ar, List.length_map]; exact htl
  -- a field, by its place
  have hix : ∀ k ∈ moAr, ∃ (i : Nat) (e : moE), i < 138 ∧ moTab[i]? = some e ∧ e.2.2.1 = k ∧ moQs ws k = ws.getD i 0 := by
    intro k hk
    have hi : moAr.idxOf k < moAr.length := List.idxOf_lt_length_of_mem hk
    have h138 : moAr.idxOf k < moTab.length := by rw [htl, ← har]; exact hi
    refine ⟨moAr.idxOf k, moTab[moAr.idxOf k], by rw [← har]; exact hi, List.getElem?_eq_getElem h138, ?_, rfl⟩
    have h1 : (moTab.map fun e => e.2.2.1)[moAr.idxOf k]? = some (moTab[moAr.idxOf k].2.2.1) := by
      rw [List.getElem?_map, List.getElem?_eq_getElem h138]
      rfl
    rw [moTab_ar, List.getElem?_eq_getElem hi, List.getElem_idxOf] at h1
    exact (Option.some.inj h1).symm
  have hmem : ∀ i, i < 138 → ws.getD i 0 ∈ ws := fun i hi => by
    rw [List.getD_eq_getElem?_getD, List.getElem?_eq_getElem (by rw [hl]; exact hi)]
    exact List.getElem_mem _
  have hQ : moQ base m (moQs ws) := by
    refine ⟨hbm, fun k hk => ?_⟩
    obtain ⟨i, e, hi, he, hek, hq⟩ := hix k hk
    obtain ⟨g1, -, g3, -⟩ := hf.1 _ (hmem i hi)
    refine ⟨by rw [hq]; exact g1, by rw [hq]; exact g3, fun j hj hjk => ?_⟩
    obtain ⟨i', e', hi', he', hek', hq'⟩ := hix j hj
    rw [hq, hq'] at hjk
    rw [List.getD_eq_getElem?_getD, List.getD_eq_getElem?_getD, List.getElem?_eq_getElem (by rw [hl]; exact hi'), List.getElem?_eq_getElem (by rw [hl]; exact hi)] at hjk
    have hii : i' = i := by
      rcases Nat.lt_trichotomy i' i with h | h | h
      · exact absurd hjk (List.pairwise_iff_getElem.mp hf.2 i' i (by omega) (by omega) h)
      · exact h
      · exact absurd hjk.symm (List.pairwise_iff_getElem.mp hf.2 i i' (by omega) (by omega) h)
    subst hii
    cases he.symm.trans he'
    rw [← hek, ← hek']
  refine ⟨hQ, ?_⟩
  have hkeys : (moCells moTab ws).map (fun p => p.1) = ws := moCells_keys moTab ws (by rw [hl, htl])
  have hV : ∀ k, k < 166 → moFs moF0 moTab ws k = moV (moQs ws) moS0 k := by
    intro k hk
    by_cases hka : k ∈ moAr
    · obtain ⟨i, e, hi, he, hek, hq⟩ := hix k hka
      have h1 := moFs_at moTab ws moF0 i e he (by rw [hl]; exact hi) hnd
      rw [hek] at h1
      rw [h1, moV_r (List.mem_filter.mp hka).2, hq]
    · rw [moFs_not moTab ws moF0 k (fun e he z => hka (by rw [← moTab_ar]; exact List.mem_map.mpr ⟨e, he, z⟩))]
      rcases moF0_ok k hk hka with ⟨h1, h2⟩ | ⟨h1, h2⟩
      · rw [h2]; unfold moV; rw [h1]; rfl
      · rw [h2]; unfold moV; rw [h1]; rfl
  funext a
  by_cases ha : a = m
  · subst ha
    rw [pm_up_self, moM_m]
    have : moL (moFs moF0 moTab ws) = moL (moV (moQs ws) moS0) := by
      unfold moL
      exact List.map_congr_left fun j hj => hV j (List.mem_range.mp hj)
    rw [this]
  · rw [pm_up_ne _ _ ha]
    by_cases hw : ∃ k ∈ moAr, moQs ws k = a
    · obtain ⟨k, hk, rfl⟩ := hw
      rw [moM_q hQ hk]
      obtain ⟨i, e, hi, he, hek, hq⟩ := hix k hk
      have hc := moCells_at moTab ws i e he (by rw [hl]; exact hi)
      have h1 := pm_ups_at (moCells moTab ws) M _ (List.mem_of_getElem? hc) (by rw [hkeys]; exact hf.2)
      rw [hq, h1]
      obtain ⟨h2, h3⟩ := moTab_kd e (List.mem_of_getElem? he)
      rw [hek] at h2 h3
      rcases h2 with ⟨h2, h4⟩ | ⟨h2, h4⟩ | ⟨h2, h4⟩
      · rw [moA_i h4, h2]
        show some (Sum.inl (FieldType.int, e.2.1, _)) = some (Sum.inl (FieldType.int, moN0 k, _))
        rw [h3]
        rfl
      · rw [moA_z h4, h2]
        show some (Sum.inl (FieldType.boolean, e.2.1, _)) = some (Sum.inl (FieldType.boolean, moN0 k, _))
        rw [h3]
        rfl
      · rw [moA_l h4, h2]
        show some (Sum.inl (FieldType.long, e.2.1, _)) = some (Sum.inl (FieldType.long, moN0 k, _))
        rw [h3]
        rfl
    · have hw' : ∀ k ∈ moAr, moQs ws k ≠ a := fun k hk z => hw ⟨k, hk, z⟩
      rw [moM_o ha hw', pm_ups_not]
      intro p hp z
      have hpm : p.1 ∈ ws := by rw [← hkeys]; exact List.mem_map.mpr ⟨p, hp, rfl⟩
      obtain ⟨i, hi, hpi⟩ := List.mem_iff_getElem.mp hpm
      rw [hl] at hi
      have hik : i < moAr.length := by rw [har]; exact hi
      refine hw' (moAr[i]) (List.getElem_mem hik) ?_
      unfold moQs
      rw [List.Nodup.idxOf_getElem moAr_nd i hik, List.getD_eq_getElem?_getD, List.getElem?_eq_getElem (by rw [hl]; exact hi)]
      show ws[i] = a
      rw [hpi, z]
