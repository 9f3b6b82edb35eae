/-! One walk for all bodies: 'pm_sound'. -/
section Steps
variable {p : Program} {l : Launch} {e : Env} {R : Room} {s : State} {m : MethodId} {args : Array Value} {below : List Frame} {meth : Method} {c : Code} {Q : State → Prop} {cc : ByteArray}
/-- a field's row: its table, its link -/
def pm_fok (cl : List vw_C) (own : String) (meth : Method) (args : Array Value) (s : State) (i : Nat) (f : Nat × Nat × FieldType × Bool) : Prop :=
  ∃ (C : String) (T : u_T) (N : Nat) (ty : Nat → FieldType) (Ts : List Cond), cl[f.1]? = some (C, T, N) ∧ f.2.1 < N ∧ (∀ w ∈ Ts, w.before args s = true) ∧ (∀ w ∈ u_ws C T N, w ∈ Ts) ∧ (∀ k, k < N → parseFieldDescriptor (T k).2.2.1 = some (ty k)) ∧ (∀ a, a < N → ∀ b, b < N → a ≠ b → (T a).2.1 ≠ (T b).2.1) ∧ ty f.2.1 = f.2.2.1 ∧
    ((Cond.fieldLink own i (T f.2.1).1 (T f.2.1).2.1 (T f.2.1).2.2.1).before args s = true ∨ ∃ host, (Cond.fieldLinkNest own i (T f.2.1).1 (T f.2.1).2.1 (T f.2.1).2.2.1 host).before args s = true) ∧
    (f.2.2.2 = true → (T f.2.1).2.2.2 = false ∨ ((T f.2.1).2.2.2 = true ∧ meth.name = "<init>" ∧ (T f.2.1).1 = own ∧ (Cond.fieldLink own i (T f.2.1).1 (T f.2.1).2.1 (T f.2.1).2.2.1).before args s = true))
def pm_nok (cl : List vw_C) (own : String) (args : Array Value) (s : State) (i : Nat) (o : Nat × List Value) : Prop :=
  ∃ (C : String) (T : u_T) (ty : Nat → FieldType) (Ts : List Cond), cl[o.1]? = some (C, T, o.2.length) ∧ (∀ w ∈ Ts, w.before args s = true) ∧ (∀ w ∈ u_ws C T o.2.length, w ∈ Ts) ∧ (∀ k, k < o.2.length → parseFieldDescriptor (T k).2.2.1 = some (ty k)) ∧ (Cond.classLink own i C).before args s = true ∧ (Cond.instantiable C o.2.length).before args s = true ∧ (Cond.initialized C).before args s = true ∧ ∀ j, j < o.2.length → defaultValue (ty j) = vp_V o.2 j
/-- how many slots the cells from a place on have -/
def pm_nsl (n : Nat) (H : Heap) : Nat := ((H.toList.drop n).map (·.slots.size)).sum
/-- old cells are as large as they were -/
def pm_keep (H H1 : Heap) : Prop := ∀ (a : Nat) (c : Cell), H[a]? = some c → ∃ c' : Cell, H1[a]? = some c' ∧ c'.slots.size = c.slots.size
theorem pm_nsl_add {H H1 : Heap} {n : Nat} (hn : n ≤ H.size) (h : pm_keep H H1) (hs : H.size ≤ H1.size) : pm_nsl n H1 = pm_nsl n H + pm_nsl H.size H1 := by
  have e1 : (H1.toList.map (·.slots.size)).take H.size = H.toList.map (·.slots.size) := by
    apply List.ext_getElem?
    intro a
    by_cases ha : a < H.size
    · rw [List.getElem?_take_of_lt ha, List.getElem?_map, List.getElem?_map, Array.getElem?_toList, Array.getElem?_toList]
      have hc : H[a]? = some H[a] := Array.getElem?_eq_getElem ha
      obtain ⟨c', h1, h2⟩ := h a _ hc
      rw [h1, hc]
      simp [h2]
    · rw [List.getElem?_eq_none (by simp; omega), List.getElem?_eq_none (by simp; omega)]
  have e2 : (H1.toList.map (·.slots.size)).drop n = (H.toList.map (·.slots.size)).drop n ++ (H1.toList.map (·.slots.size)).drop H.size := by
    rw [← e1, ← List.drop_append_of_le_length (by simp; omega), List.take_append_drop]
  unfold pm_nsl
  rw [List.map_drop, List.map_drop, List.map_drop, e2, List.sum_append]
/-- what a call leaves: of its budget mc, ms there are kc, ks left -/
def pm_Qc (D : va_G) (cl : List vw_C) (base mc ms : Nat) (Rt : pmR) : State → Outcome → State → Prop := fun st oc t => ∃ (v : Option Value) (M : pmM) (kc ks : Nat), oc = .returned v ∧ Rt v M kc ks ∧ pm_P D cl base M t t.heap ∧ va_F (fun q => base ≤ q) st t ∧ t.heap.size + kc ≤ st.heap.size + mc ∧ pm_nsl st.heap.size t.heap + ks ≤ ms ∧ pm_keep st.heap t.heap
theorem pm_narrow {T : State} {locs : List Loc} {C S C' S' : Nat} (X : Stand p l e R s m args below meth c T locs C S) (h1 : T.heap.size ≤ s.heap.size + C') (h2 : pm_nsl s.heap.size T.heap ≤ S') : Stand p l e R s m args below meth c T locs C' S' :=
  { X with same := ⟨X.same.1, X.same.2.1, h1, X.same.2.2.2.1, h2, X.same.2.2.2.2.2⟩ }
theorem pm_sizes {T : State} {locs : List Loc} {C S : Nat} (X : Stand p l e R s m args below meth c T locs C S) : s.heap.size ≤ T.heap.size ∧ T.heap.size ≤ s.heap.size + C ∧ pm_nsl s.heap.size T.heap ≤ S ∧ pm_keep s.heap T.heap :=
  ⟨X.same.2.1, X.same.2.2.1, X.same.2.2.2.2.1, fun a c h => by
    obtain ⟨c', h1, h2, h3, h4⟩ := X.same.2.2.2.2.2 a c h
    exact ⟨c', h1, h3⟩⟩
/-- what the machine's own book says of the heap -/
theorem pm_W_sz {H : Heap} {locs : List Loc} {cells slots : Nat} {g : JFrame} (h : s.heap.size ≤ H.size → H.size ≤ s.heap.size + cells → pm_nsl s.heap.size H ≤ slots → pm_keep s.heap H → W p l e R s m args below meth c H locs cells slots Q g) : W p l e R s m args below meth c H locs cells slots Q g := by
  intro T hT X
  obtain ⟨a, b, d, k⟩ := pm_sizes X
  rw [hT] at a b d k
  exact h a b d k T hT X
def pm_inv (k i : Nat) : Instr := match k with
  | 0 => .invokevirtual i
  | 1 => .invokespecial i
  | 3 => .multianewarray (i - 100000) 2
  | _ => .invokestatic i
def pm_ilen (k : Nat) : Nat := match k with
  | 3 => 4
  | _ => 3
/-- what may wait on the stack at a call -/
def pm_lim (k : Nat) : Nat := match k with
  | 2 => 12
  | _ => 8
/-- a callee's row -/
def pm_cok (D : va_G) (cl : List vw_C) (base : Nat) (p : Program) (l : Launch) (e : Env) (R : Room) (s : State) (m : MethodId) (args : Array Value) (below : List Frame) (meth : Method) (c : Code) (nL : Nat) (cc : ByteArray) (i : Nat) (y : Nat × Nat × pmT) : Prop :=
  ∀ (Q : State → Prop) (pc : Nat) (ls : Array Slot) (As rest : List Value) (M : pmM) (kc ks cells slots : Nat) (Rt : pmR) (H : Heap) (locs : List Loc),
    decode cc pc = .ok (pm_inv y.1 i, pm_ilen y.1) → As.length = y.2.1 → pm_cats rest ≤ pm_lim y.1 → ls.size = nL → cells + kc ≤ R.cells → slots + ks ≤ R.slots → pm_P D cl base M s H → va_S (fun q => base ≤ q) s.heap H locs → y.2.2 As M kc ks Rt →
    (∀ (v : Option Value) (M1 : pmM) (kc1 ks1 cells1 slots1 : Nat) (H1 : Heap) (locs1 : List Loc), Rt v M1 kc1 ks1 → pm_P D cl base M1 s H1 → va_S (fun q => base ≤ q) s.heap H1 locs1 → cells1 + kc1 ≤ cells + kc → slots1 + ks1 ≤ slots + ks → W p l e R s m args below meth c H1 locs1 cells1 slots1 Q (F0 m (pc + pm_ilen y.1) ls (v.toList ++ rest))) →
    W p l e R s m args below meth c H locs cells slots Q (F0 m pc ls (As.reverse ++ rest))
/-- what must stand for a body -/
def pm_ok (D : va_G) (cl : List vw_C) (base : Nat) (Z : pmZ) (p : Program) (l : Launch) (e : Env) (R : Room) (s : State) (m : MethodId) (args : Array Value) (below : List Frame) (meth : Method) (c : Code) (own : String) (cc : ByteArray) (X : pmX) : Prop :=
  p.tables.exec = Jvm.exec ∧ c.code = cc ∧ s.vm.findClass own = some m.cls ∧ base ≤ s.heap.size ∧ (∀ pc ins, X.code pc = some ins → decode cc pc = .ok (ins, pm_len pc ins)) ∧
  (∀ i f, X.fld i = some f → pm_fok cl own meth args s i f) ∧ (∀ i o, X.mk i = some o → pm_nok cl own args s i o) ∧ (∀ i v, X.ci i = some v → (Jvm.Cond.constant own i v).before args s = true) ∧ (∀ i v, X.cl i = some v → (Jvm.Cond.constantLong own i v).before args s = true) ∧
  (∀ i C, X.arr i = some C → (Cond.classLink own i C).before args s = true ∧ va_AO C s) ∧ (∀ i y, X.cal i = some y → pm_cok D cl base p l e R s m args below meth c X.nL cc i y) ∧
  pm_Z base Z s s.heap ∧ (∀ i v, X.sta i = some v → ∃ (C n d : String), (C, n, d, v) ∈ Z.1 ∧ ((Cond.fieldLink own i C n d).before args s = true ∨ ∃ host, (Cond.fieldLinkNest own i C n d host).before args s = true)) ∧
  (∀ t : ArrayType, pm_nar t = true → (Cond.arrayClass (newarray.typeOf t)).before args s = true) ∧ (∀ i a, X.str i = some a → ∃ tx, (own, i, tx, a) ∈ Z.2.1)
/-- a call, out of its run -/
theorem pm_call {D : va_G} {cl : List vw_C} {base : Nat} {H : Heap} {locs : List Loc} {cells slots mc ms pc : Nat} {ls : Array Slot} {st0 rest : List Value} {Rt : pmR}
    (hr : va_Run p l e R s m args below meth c H locs cells slots mc ms (F0 m pc ls st0) rest (pm_Qc D cl base mc ms Rt) (fun q => base ≤ q)) (hS : va_S (fun q => base ≤ q) s.heap H locs)
    (kk : ∀ (v : Option Value) (M1 : pmM) (kc1 ks1 cells1 slots1 : Nat) (H1 : Heap) (locs1 : List Loc), Rt v M1 kc1 ks1 → pm_P D cl base M1 s H1 → va_S (fun q => base ≤ q) s.heap H1 locs1 → cells1 + kc1 ≤ cells + mc → slots1 + ks1 ≤ slots + ms → W p l e R s m args below meth c H1 locs1 cells1 slots1 Q (F0 m (pc + 3) ls (v.toList ++ rest))) :
    W p l e R s m args below meth c H locs cells slots Q (F0 m pc ls st0) := by
  intro T hT X
  obtain ⟨x1, x2, x3, x4⟩ := pm_sizes X
  rw [hT] at x1 x2 x3 x4
  obtain ⟨v, st₀, t, T', L, e0, X', hL, e1, e2, hq, hgo⟩ := hr T hT X
  obtain ⟨v', M, kc1, ks1, ho, hRt, hP, hF, hz1, hz2, hz3⟩ := hq
  cases ho
  rw [e0] at hz1 hz2 hz3
  have hF1 := hF.1
  rw [e0] at hF1
  have hal : s.vm.Alike t.vm := by rw [← e2]; exact X'.warmed.alike
  have hP2 : pm_P D cl base M s t.heap := hP.moved hal.symm
  have hS1 : va_S (fun q => base ≤ q) s.heap t.heap (locs ++ L) := by
    refine ⟨Nat.le_trans hS.1 hF1, ?_, ?_⟩
    · intro q hq1 hq2
      have h2 := hF.2 q (by rw [e0]; exact Nat.lt_of_lt_of_le hq1 hS.1) hq2
      rw [h2, e0]
      exact hS.2.1 q hq1 hq2
    · intro z hz
      rcases List.mem_append.mp hz with h | h
      · exact hS.2.2 z h
      · exact hL z h
  have hn := pm_nsl_add x1 hz3 hF1
  have X'' : Stand p l e R s m args below meth c T' (locs ++ L) (cells + (mc - kc1)) (slots + (ms - ks1)) := pm_narrow X' (by rw [e1]; omega) (by rw [e1, hn]; omega)
  obtain ⟨tt, a1, b1⟩ := kk v M kc1 ks1 _ _ t.heap (locs ++ L) hRt hP2 hS1 (by omega) (by omega) T' e1 X''
  exact ⟨tt, hgo tt a1, b1⟩
end Steps
