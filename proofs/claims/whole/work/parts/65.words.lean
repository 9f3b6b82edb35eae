/-! The words that every body may use: those of the tables that stay. -/
def pw_T : List Cond := lw_tbl.filter goodWord
theorem pw_good : ∀ w ∈ pw_T, goodWord w = true := fun w h => (List.mem_filter.mp h).2
theorem pw_in (i : Nat) {w : Cond} (h : tables_1[i]? = some w) (hg : goodWord w = true) : w ∈ pw_T := List.mem_filter.mpr ⟨List.mem_append_right _ (List.mem_of_getElem? h), hg⟩
theorem pw_sel (i : Nat) {q : MethodName × Nat} (h : lw_privs[i]? = some q) : Cond.selects q.1.cls q.1 q.1 ∈ pw_T := List.mem_filter.mpr ⟨List.mem_append_left _ (List.mem_map.mpr ⟨q, List.mem_of_getElem? h, rfl⟩), rfl⟩
theorem pw_lay {C : String} {T : u_T} {N : Nat} (ps : List Nat) (h : (List.range N).all (fun k => decide (tables_1[ps.getD k 0]? = some (u_lay C T k))) = true) : ∀ w ∈ u_ws C T N, w ∈ pw_T := by
  intro w hw
  obtain ⟨k, hk, rfl⟩ := List.mem_map.mp hw
  have h1 := List.all_eq_true.mp h k hk
  refine pw_in _ (of_decide_eq_true h1) ?_
  unfold u_lay
  split <;> rfl
theorem pw_goodIn {c : Cond} {ws : List Cond} (h : ∀ w ∈ ws, w ∈ pw_T) : GoodIn (c :: pw_T) ws := fun w hw => ⟨List.mem_cons_of_mem _ (h w hw), good_of_word (pw_good w (h w hw))⟩
theorem pw_gV {c0 : Cond} {own C : String} {i n : Nat} {y : MethodName} {b : ByteArray} {r : Option FieldType} (h1 : Cond.methodLink own i y ∈ pw_T) (h2 : Cond.instanceMethod y ∈ pw_T) (h3 : Cond.selects C y y ∈ pw_T) (h4 : Cond.initialized C ∈ pw_T) (h5 : Cond.code y b n r ∈ pw_T) : GoodIn (c0 :: pw_T) (wsV own i C y (Cond.code y b n r :: pw_T)) :=
  pw_goodIn (List.forall_mem_cons.mpr ⟨h1, List.forall_mem_cons.mpr ⟨h2, List.forall_mem_cons.mpr ⟨h3, List.forall_mem_cons.mpr ⟨h4, List.forall_mem_cons.mpr ⟨h5, fun _ h => h⟩⟩⟩⟩⟩)
theorem pw_gS {c0 : Cond} {own : String} {i n : Nat} {y : MethodName} {b : ByteArray} {r : Option FieldType} (h1 : Cond.methodLink own i y ∈ pw_T) (h2 : Cond.static y ∈ pw_T) (h4 : Cond.initialized y.cls ∈ pw_T) (h5 : Cond.code y b n r ∈ pw_T) : GoodIn (c0 :: pw_T) (va_wsS own i y (Cond.code y b n r :: pw_T)) :=
  pw_goodIn (List.forall_mem_cons.mpr ⟨h1, List.forall_mem_cons.mpr ⟨h2, List.forall_mem_cons.mpr ⟨h4, List.forall_mem_cons.mpr ⟨h5, fun _ h => h⟩⟩⟩⟩)
theorem pw_gC {c0 : Cond} {n : Nat} {y : MethodName} {b : ByteArray} {r : Option FieldType} (h5 : Cond.code y b n r ∈ pw_T) : GoodIn (c0 :: pw_T) (Cond.code y b n r :: pw_T) := pw_goodIn (List.forall_mem_cons.mpr ⟨h5, fun _ h => h⟩)
