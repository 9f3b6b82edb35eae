section Main
variable {p : Program} {l : Launch} {e : Env} {R : Room} {s : State} {m : MethodId} {args : Array Value} {below : List Frame} {meth : Method} {c : Code} {Q : State → Prop} {cc : ByteArray} {D : va_G} {cl : List vw_C} {base : Nat} {own : String} {Z : pmZ} {X : pmX} {Rt : pmR}
/-- an array of small numbers, read -/
theorem pm_rdi (hx : p.tables.exec = Jvm.exec) (hb : c.code = cc) {M : pmM} {H : Heap} {locs : List Loc} {cells slots pc : Nat} {ls : Array Slot} {rest : List Value} {a n : Nat} {f : Nat → Int32} {i : Int32} (hP : pm_P D cl base M s H) (hM : M a = some (.inl (.int, n, .inl f))) (hin : vp_in i n) (hdg : decode cc pc = .ok (.iaload, 1)) (kk : W p l e R s m args below meth c H locs cells slots Q (F0 m (pc + 1) ls (.int (f i.toNatClampNeg) :: rest))) : W p l e R s m args below meth c H locs cells slots Q (F0 m pc ls (.int i :: .ref a :: rest)) := by
  obtain ⟨ws, tys, hK, hPw, hD, hq⟩ := hP
  rcases hq a _ hM with ⟨-, k, v, hk, hv⟩ | ⟨-, cell, h1, h2, h3, h4, h4', h5⟩
  · cases v with
    | inr o => exact hv.elim
    | inl y =>
      obtain ⟨cA, y⟩ := y
      obtain ⟨hxy, t, ht⟩ := hv
      have hxy : (n, .inl f) = y := hxy
      subst hxy
      exact va_iald hx hb hK hPw k t hk ht hin hdg kk
  · exact W.iald hx hb h1 h2 h3 (fun q => hin (q.elim Or.inl fun z => Or.inr (Nat.le_trans h4 z))) (h5 _ (Nat.not_le.mp fun q => hin (Or.inr q))) rfl rfl hdg kk
theorem pm_rdb (hx : p.tables.exec = Jvm.exec) (hb : c.code = cc) {M : pmM} {H : Heap} {locs : List Loc} {cells slots pc : Nat} {ls : Array Slot} {rest : List Value} {a n : Nat} {f : Nat → Int32} {i : Int32} (hP : pm_P D cl base M s H) (hM : M a = some (.inl (.byte, n, .inl f))) (hin : vp_in i n) (hdg : decode cc pc = .ok (.baload, 1)) (kk : W p l e R s m args below meth c H locs cells slots Q (F0 m (pc + 1) ls (.int (f i.toNatClampNeg) :: rest))) : W p l e R s m args below meth c H locs cells slots Q (F0 m pc ls (.int i :: .ref a :: rest)) := by
  obtain ⟨ws, tys, hK, hPw, hD, hq⟩ := hP
  rcases hq a _ hM with ⟨-, k, v, hk, hv⟩ | ⟨-, cell, h1, h2, h3, h4, h4', h5⟩
  · cases v with
    | inr o => exact hv.elim
    | inl y =>
      obtain ⟨cA, y⟩ := y
      obtain ⟨hxy, t, ht⟩ := hv
      have hxy : (n, .inl f) = y := hxy
      subst hxy
      exact va_bald hx hb hK hPw k t hk ht hin hdg kk
  · exact W.bald hx hb h1 h2 h3 (fun q => hin (q.elim Or.inl fun z => Or.inr (Nat.le_trans h4 z))) (h5 _ (Nat.not_le.mp fun q => hin (Or.inr q))) rfl rfl hdg kk
theorem pm_rdz (hx : p.tables.exec = Jvm.exec) (hb : c.code = cc) {M : pmM} {H : Heap} {locs : List Loc} {cells slots pc : Nat} {ls : Array Slot} {rest : List Value} {a n : Nat} {f : Nat → Int32} {i : Int32} (hP : pm_P D cl base M s H) (hM : M a = some (.inl (.boolean, n, .inl f))) (hin : vp_in i n) (hdg : decode cc pc = .ok (.baload, 1)) (kk : W p l e R s m args below meth c H locs cells slots Q (F0 m (pc + 1) ls (.int (f i.toNatClampNeg) :: rest))) : W p l e R s m args below meth c H locs cells slots Q (F0 m pc ls (.int i :: .ref a :: rest)) := by
  obtain ⟨ws, tys, hK, hPw, hD, hq⟩ := hP
  rcases hq a _ hM with ⟨-, k, v, hk, hv⟩ | ⟨-, cell, h1, h2, h3, h4, h4', h5⟩
  · cases v with
    | inr o => exact hv.elim
    | inl y =>
      obtain ⟨cA, y⟩ := y
      obtain ⟨hxy, t, ht⟩ := hv
      have hxy : (n, .inl f) = y := hxy
      subst hxy
      exact va_zald hx hb hK hPw k t hk ht hin hdg kk
  · exact W.zald hx hb h1 h2 h3 (fun q => hin (q.elim Or.inl fun z => Or.inr (Nat.le_trans h4 z))) (h5 _ (Nat.not_le.mp fun q => hin (Or.inr q))) rfl rfl hdg kk
/-- a cell that may be written stands in the world -/
theorem pm_P.at {M : pmM} {U : State} {H : Heap} (hP : pm_P D cl base M U H) {a : Nat} {x : FieldType × vp_A} (hM : M a = some (.inl x)) (hb : base ≤ a) : ∃ (ws : va_W) (tys : List (ClassId × FieldType)) (k t : Nat) (cA : ClassId), va_K D cl tys U ∧ va_P D cl ws H ∧ va_D (fun q => base ≤ q) ws ∧ ws[k]? = some (a, .inl (cA, x.2)) ∧ tys[t]? = some (cA, x.1) ∧ ∀ (b : Nat) (e : pmE), M b = some e → (base ≤ b ∧ ∃ (k : Nat) (v : va_E), ws[k]? = some (b, v) ∧ pm_rel tys e v) ∨ (b < base ∧ pm_ro D cl U H b e) := by
  obtain ⟨ws, tys, hK, hPw, hD, hq⟩ := hP
  rcases hq a _ hM with ⟨-, k, v, hk, hv⟩ | ⟨h1, -⟩
  · cases v with
    | inr o => exact hv.elim
    | inl y =>
      obtain ⟨cA, y⟩ := y
      obtain ⟨hxy, t, ht⟩ := hv
      have hxy : x.2 = y := hxy
      subst hxy
      exact ⟨ws, tys, k, t, cA, hK, hPw, hD, hk, ht, hq⟩
  · omega
theorem pm_P.atO {M : pmM} {U : State} {H : Heap} (hP : pm_P D cl base M U H) {a : Nat} {o : Nat × List Value} (hM : M a = some (.inr o)) (hb : base ≤ a) : ∃ (ws : va_W) (tys : List (ClassId × FieldType)) (k : Nat), va_K D cl tys U ∧ va_P D cl ws H ∧ va_D (fun q => base ≤ q) ws ∧ ws[k]? = some (a, .inr o) ∧ ∀ (b : Nat) (e : pmE), M b = some e → (base ≤ b ∧ ∃ (k : Nat) (v : va_E), ws[k]? = some (b, v) ∧ pm_rel tys e v) ∨ (b < base ∧ pm_ro D cl U H b e) := by
  obtain ⟨ws, tys, hK, hPw, hD, hq⟩ := hP
  rcases hq a _ hM with ⟨-, k, v, hk, hv⟩ | ⟨h1, -⟩
  · cases v with
    | inl y => exact hv.elim
    | inr o' =>
      have e : o = o' := hv
      subst e
      exact ⟨ws, tys, k, hK, hPw, hD, hk, hq⟩
  · omega
theorem pm_rdc (hx : p.tables.exec = Jvm.exec) (hb : c.code = cc) {M : pmM} {H : Heap} {locs : List Loc} {cells slots pc : Nat} {ls : Array Slot} {rest : List Value} {a n : Nat} {f : Nat → Int32} {i : Int32} (hP : pm_P D cl base M s H) (hM : M a = some (.inl (.char, n, .inl f))) (hin : vp_in i n) (hdg : decode cc pc = .ok (.caload, 1)) (kk : W p l e R s m args below meth c H locs cells slots Q (F0 m (pc + 1) ls (.int (f i.toNatClampNeg) :: rest))) : W p l e R s m args below meth c H locs cells slots Q (F0 m pc ls (.int i :: .ref a :: rest)) := by
  obtain ⟨ws, tys, hK, hPw, hD, hq⟩ := hP
  rcases hq a _ hM with ⟨-, k, v, hk, hv⟩ | ⟨-, cell, h1, h2, h3, h4, h4', h5⟩
  · cases v with
    | inr o => exact hv.elim
    | inl y =>
      obtain ⟨cA, y⟩ := y
      obtain ⟨hxy, t, ht⟩ := hv
      have hxy : (n, .inl f) = y := hxy
      subst hxy
      exact va_cald hx hb hK hPw k t hk ht hin hdg kk
  · exact W.cald hx hb h1 h2 h3 (fun q => hin (q.elim Or.inl fun z => Or.inr (Nat.le_trans h4 z))) (h5 _ (Nat.not_le.mp fun q => hin (Or.inr q))) rfl rfl hdg kk
/-- how long an array is -/
theorem pm_rdn (hx : p.tables.exec = Jvm.exec) (hb : c.code = cc) {M : pmM} {H : Heap} {locs : List Loc} {cells slots pc : Nat} {ls : Array Slot} {rest : List Value} {a n : Nat} {ty : FieldType} {x : (Nat → Int32) ⊕ (Nat → Int64) ⊕ (Nat → UInt32) ⊕ (Nat → UInt64) ⊕ (Nat → Option Nat)} (hP : pm_P D cl base M s H) (hM : M a = some (.inl (ty, n, x))) (hdg : decode cc pc = .ok (.arraylength, 1)) (kk : W p l e R s m args below meth c H locs cells slots Q (F0 m (pc + 1) ls (.int (Int32.ofNat n) :: rest))) : W p l e R s m args below meth c H locs cells slots Q (F0 m pc ls (.ref a :: rest)) := by
  obtain ⟨ws, tys, hK, hPw, hD, hq⟩ := hP
  rcases hq a _ hM with ⟨-, k, v, hk, hv⟩ | ⟨-, hr⟩
  · cases v with
    | inr o => exact hv.elim
    | inl y =>
      obtain ⟨cA, y⟩ := y
      obtain ⟨hxy, t, ht⟩ := hv
      have hxy : (n, x) = y := hxy
      subst hxy
      exact va_alen hx hb hK hPw k t hk ht rfl hdg kk
  · cases x with
    | inr x => exact hr.elim
    | inl f =>
      obtain ⟨cell, h1, h2, h3, h4, h4', h5⟩ := hr
      exact W.alen hx hb h1 h2 h4' rfl rfl hdg kk
theorem pm_al_len {M : pmM} {a : Nat} {k : Nat → Prop} (h : match M a with
    | some (.inl (_, n, _)) => k n
    | _ => False) : ∃ ty n x, M a = some (.inl (ty, n, x)) ∧ k n := by
  split at h
  · exact ⟨_, _, _, by assumption, h⟩
  · exact h.elim
/-- an array that isn't of small numbers stands in the world -/
theorem pm_P.wl {M : pmM} {U : State} {H : Heap} (hP : pm_P D cl base M U H) {a n : Nat} {ty : FieldType} {x : (Nat → Int64) ⊕ (Nat → UInt32) ⊕ (Nat → UInt64) ⊕ (Nat → Option Nat)} (hM : M a = some (.inl (ty, n, .inr x))) : ∃ (ws : va_W) (tys : List (ClassId × FieldType)) (k t : Nat) (cA : ClassId), va_K D cl tys U ∧ va_P D cl ws H ∧ va_D (fun q => base ≤ q) ws ∧ ws[k]? = some (a, .inl (cA, n, .inr x)) ∧ tys[t]? = some (cA, ty) ∧ ∀ (b : Nat) (e : pmE), M b = some e → (base ≤ b ∧ ∃ (k : Nat) (v : va_E), ws[k]? = some (b, v) ∧ pm_rel tys e v) ∨ (b < base ∧ pm_ro D cl U H b e) := by
  obtain ⟨ws, tys, hK, hPw, hD, hq⟩ := id hP
  rcases hq a _ hM with ⟨h1, -⟩ | ⟨-, hr⟩
  · exact hP.at hM h1
  · exact hr.elim
/-- an array of references, read -/
theorem pm_rda (hx : p.tables.exec = Jvm.exec) (hb : c.code = cc) {M : pmM} {H : Heap} {locs : List Loc} {cells slots pc : Nat} {ls : Array Slot} {rest : List Value} {a n : Nat} {ty : FieldType} {f : Nat → Option Nat} {i : Int32} (hP : pm_P D cl base M s H) (hM : M a = some (.inl (ty, n, .inr (.inr (.inr (.inr f)))))) (hty : ty.isReference = true) (hin : vp_in i n) (hdg : decode cc pc = .ok (.aaload, 1)) (kk : W p l e R s m args below meth c H locs cells slots Q (F0 m (pc + 1) ls (va_rf (f i.toNatClampNeg) :: rest))) : W p l e R s m args below meth c H locs cells slots Q (F0 m pc ls (.int i :: .ref a :: rest)) := by
  obtain ⟨ws, tys, k, t, cA, hK, hPw, hD, hk, ht, hq⟩ := hP.wl hM
  have hlt : i.toNatClampNeg < n := Nat.not_le.mp fun q => hin (Or.inr q)
  exact W.aald (v := va_rf (f i.toNatClampNeg)) hx hb (hPw k _ hk) ((hK.2 t _ ht).1 n (fun j => va_rf (f j))) hty (fun q => by cases q) (by show ¬ (i < 0 ∨ (arrV _ _ _).slots.size ≤ _); rw [arrV_size]; exact hin) (by show (arrV _ _ _).slots[_]? = _; rw [arrV_read _ _ hlt]) rfl rfl hdg kk
theorem pm_bytes (t : ArrayType) {n : Nat} (h : n ≤ 4000000) : n * componentBytes (newarray.typeOf t) ≤ 536870912 := by
  have h8 : componentBytes (newarray.typeOf t) ≤ 8 := by cases t <;> decide
  exact Nat.le_trans (Nat.mul_le_mul h h8) (by decide)
/-- the heap below the base is as it was -/
theorem pm_low {H H1 : Heap} {locs locs1 : List Loc} (hbs : base ≤ s.heap.size) (h : va_S (fun q => base ≤ q) s.heap H locs) (h1 : va_S (fun q => base ≤ q) s.heap H1 locs1) : ∀ q, q < base → H1[q]? = H[q]? := fun q hq => by
  rw [h1.2.1 q (by omega) (by omega), h.2.1 q (by omega) (by omega)]
/-- a constant text, by the long form -/
theorem pm_ldcwS (hexec : p.tables.exec = Jvm.exec) (hb : c.code = cc) {H : Heap} {locs : List Loc} {cells slots pc : Nat} {ls : Array Slot} {rest : List Value} {own tx : String} {index q : Nat} (hown : s.vm.findClass own = some m.cls) (hZ : vk_R own index tx q s) (hdg : decode cc pc = .ok (.ldc_w index, 3))
    (k : W p l e R s m args below meth c H locs cells slots Q (F0 m (pc + 3) ls (.ref q :: rest))) : W p l e R s m args below meth c H locs cells slots Q (F0 m pc ls rest) := by
  intro T hT X
  obtain ⟨t, a1, b1⟩ := k T hT X
  refine ⟨t, ?_, b1⟩
  obtain ⟨k0, cf, i, a', hk, hcf, hcp, -, hr, hev'⟩ := Cond.stringRef_spec hown hZ.1
  cases hZ.2.symm.trans hev'
  obtain ⟨k', hk', he⟩ := X.warmed.alike.2.2 _ _ hk
  have hr' : k'.resolved[index]? = some (some (.string q)) := by
    rcases X.warmed.entry hk hk' index with h | ⟨h, -⟩
    · rw [h]; exact hr
    · rw [hr] at h; cases h
  subst hb
  jvm_step X.here [hexec, hdg, ldc_w.wp_string (e := e) (s := T) (f := F0 m pc ls rest) X.here.top hk' (by rw [he]; exact hcf) hcp hr']
  exact a1
set_option maxHeartbeats 4000000 in
set_option maxRecDepth 100000 in
theorem pm_sound (C0 : pm_ok D cl base Z p l e R s m args below meth c own cc X) {mc ms : Nat} (hmc : mc ≤ R.cells) (hms : ms ≤ R.slots)
    (hret : ∀ (ins : Instr) (v : Option Value) (st : List Value) (pc : Nat) (M : pmM) (H : Heap) (locs : List Loc) (ls : Array Slot) (cells slots kc ks : Nat), decode cc pc = .ok (ins, 1) → ((∃ x ty, ins = .ireturn ∧ v = some (.int x) ∧ st = [.int x] ∧ X.ret = some ty ∧ narrow ty (.int x) = .int x) ∨ (∃ x, ins = .lreturn ∧ v = some (.long x) ∧ st = [.long x] ∧ X.ret = some .long) ∨ (∃ q ty, ins = .areturn ∧ v = some (va_rf q) ∧ st = [va_rf q] ∧ X.ret = some ty ∧ ty.isReference = true) ∨ (ins = .return_ ∧ v = none ∧ st = [] ∧ X.ret = none)) → Rt v M kc ks → pm_P D cl base M s H → va_S (fun q => base ≤ q) s.heap H locs → cells + kc ≤ mc → slots + ks ≤ ms → W p l e R s m args below meth c H locs cells slots Q (F0 m pc ls st)) :
    pm_cl cl base X Rt (fun pc L st M kc ks => ∀ (H : Heap) (locs : List Loc) (ls : Array Slot) (cells slots : Nat), pm_P D cl base M s H → va_S (fun q => base ≤ q) s.heap H locs → lv_has ls X.nL L → cells + kc ≤ mc → slots + ks ≤ ms → W p l e R s m args below meth c H locs cells slots Q (F0 m pc ls st)) := by
  obtain ⟨hx, hb, hown, hbs, hc, hfld, hmk, hci, hcl, harr, hcal, hZ0, hsta, hnar, hstr⟩ := C0
  have hA : ∀ q, s.heap.size ≤ q → base ≤ q := fun q h => Nat.le_trans hbs h
  refine ⟨?_, fun is pc L st M M' kc ks kc' ks' hle h1 h2 h H locs ls cells slots hP hS hl hk1 hk2 => h H locs ls cells slots (hP.weak hle) hS (lv_sub hl is rfl) (by omega) (by omega)⟩
  intro pc L st M kc ks ins hi h H locs ls cells slots hP hS hl hk1 hk2
  have hd := hc pc ins hi
  cases ins with
  | aconst_null => exact lv_null hx hb hd (h H locs ls cells slots hP hS hl hk1 hk2)
  | iconst n => exact lv_iconst hx hb hd rfl (h H locs ls cells slots hP hS hl hk1 hk2)
  | lconst n => exact lv_lconst hx hb hd rfl (h H locs ls cells slots hP hS hl hk1 hk2)
  | bipush n => exact lv_bipush hx hb hd rfl (h H locs ls cells slots hP hS hl hk1 hk2)
  | sipush n => exact lv_sipush hx hb hd rfl (h H locs ls cells slots hP hS hl hk1 hk2)
  | ldc i =>
    rcases h with ⟨v, hv, h⟩ | ⟨a, ha, h⟩
    · exact lv_ldc hx hb hown (hci i v hv) hd (h H locs ls cells slots hP hS hl hk1 hk2)
    · obtain ⟨tx, hRm⟩ := hstr i a ha
      have hR := hZ0.2.1 _ hRm
      exact va_ldcS hx hb hown hR hd (h H locs ls cells slots hP hS hl hk1 hk2)
  | ldc_w i =>
    rcases h with ⟨v, hv, h⟩ | ⟨a, ha, h⟩
    · exact lv_ldcw hx hb hown (hci i v hv) hd (h H locs ls cells slots hP hS hl hk1 hk2)
    · obtain ⟨tx, hRm⟩ := hstr i a ha
      have hR := hZ0.2.1 _ hRm
      exact pm_ldcwS hx hb hown hR hd (h H locs ls cells slots hP hS hl hk1 hk2)
  | ldc2_w i =>
    obtain ⟨v, hv, h⟩ := pm_opt_of h
    exact lv_ldc2 hx hb hown (hcl i v hv) hd (h H locs ls cells slots hP hS hl hk1 hk2)
  | iload_n i =>
    obtain ⟨v, hv, h⟩ := pm_old_of h
    obtain ⟨x, rfl, h⟩ := pm_isI_of h
    exact lv_iload_n hx hb hd rfl (pm_get_at hl hv) (h H locs ls cells slots hP hS hl hk1 hk2)
  | iload i =>
    obtain ⟨v, hv, h⟩ := pm_old_of h
    obtain ⟨x, rfl, h⟩ := pm_isI_of h
    exact lv_iload hx hb hd (pm_get_at hl hv) (h H locs ls cells slots hP hS hl hk1 hk2)
  | lload_n i =>
    obtain ⟨v, hv, h⟩ := pm_old_of h
    obtain ⟨x, rfl, h⟩ := pm_isL_of h
    exact lv_lload_n hx hb hd rfl (pm_get_at hl hv) (h H locs ls cells slots hP hS hl hk1 hk2)
  | lload i =>
    obtain ⟨v, hv, h⟩ := pm_old_of h
    obtain ⟨x, rfl, h⟩ := pm_isL_of h
    exact lv_lload hx hb hd (pm_get_at hl hv) (h H locs ls cells slots hP hS hl hk1 hk2)
  | aload_n i =>
    obtain ⟨v, hv, h⟩ := pm_old_of h
    obtain ⟨q, rfl, h⟩ := pm_isQ_of h
    cases q with
    | none => exact lv_aload_nN hx hb hd rfl (pm_get_at hl hv) (h H locs ls cells slots hP hS hl hk1 hk2)
    | some a => exact lv_aload_n hx hb hd rfl (pm_get_at hl hv) (h H locs ls cells slots hP hS hl hk1 hk2)
  | aload i =>
    obtain ⟨v, hv, h⟩ := pm_old_of h
    obtain ⟨q, rfl, h⟩ := pm_isQ_of h
    cases q with
    | none => exact lv_aloadN hx hb hd (pm_get_at hl hv) (h H locs ls cells slots hP hS hl hk1 hk2)
    | some a => exact lv_aload hx hb hd (pm_get_at hl hv) (h H locs ls cells slots hP hS hl hk1 hk2)
  | istore_n i =>
    obtain ⟨hn, h⟩ := h
    obtain ⟨x, r, rfl, h⟩ := ps_i_of h
    exact lv_istore_n hx hb hd rfl hl hn rfl (fun ls hl => h H locs ls cells slots hP hS hl hk1 hk2)
  | istore i =>
    obtain ⟨hn, h⟩ := h
    obtain ⟨x, r, rfl, h⟩ := ps_i_of h
    exact lv_istore hx hb hd hl hn rfl (fun ls hl => h H locs ls cells slots hP hS hl hk1 hk2)
  | lstore_n i =>
    obtain ⟨hn, h⟩ := h
    obtain ⟨x, r, rfl, h⟩ := ps_l_of h
    exact lv_lstore_n hx hb hd rfl hl hn rfl (fun ls hl => h H locs ls cells slots hP hS hl hk1 hk2)
  | lstore i =>
    obtain ⟨hn, h⟩ := h
    obtain ⟨x, r, rfl, h⟩ := ps_l_of h
    exact lv_lstore hx hb hd hl hn rfl (fun ls hl => h H locs ls cells slots hP hS hl hk1 hk2)
  | astore_n i =>
    obtain ⟨hn, h⟩ := h
    obtain ⟨q, r, rfl, h⟩ := ps_q_of h
    cases q with
    | none => exact lv_astore_nN hx hb hd rfl hl hn rfl (fun ls hl => h H locs ls cells slots hP hS hl hk1 hk2)
    | some a => exact lv_astore_n hx hb hd rfl hl hn rfl (fun ls hl => h H locs ls cells slots hP hS hl hk1 hk2)
  | astore i =>
    obtain ⟨hn, h⟩ := h
    obtain ⟨q, r, rfl, h⟩ := ps_q_of h
    cases q with
    | none => exact lv_astoreN hx hb hd hl hn rfl (fun ls hl => h H locs ls cells slots hP hS hl hk1 hk2)
    | some a => exact lv_astore hx hb hd hl hn rfl (fun ls hl => h H locs ls cells slots hP hS hl hk1 hk2)
  | iinc i n =>
    obtain ⟨hn, h⟩ := h
    obtain ⟨v, hv, h⟩ := pm_old_of h
    obtain ⟨x, rfl, h⟩ := pm_isI_of h
    obtain ⟨k, hk⟩ := pm_get_k hv
    exact lv_iinc hx hb hd hl hk rfl hn rfl (fun ls hl => h H locs ls cells slots hP hS hl hk1 hk2)
  | iadd => obtain ⟨x, y, r, rfl, h⟩ := ps_ii_of h; exact lv_iadd hx hb hd (h H locs ls cells slots hP hS hl hk1 hk2)
  | isub => obtain ⟨x, y, r, rfl, h⟩ := ps_ii_of h; exact lv_isub hx hb hd (h H locs ls cells slots hP hS hl hk1 hk2)
  | imul => obtain ⟨x, y, r, rfl, h⟩ := ps_ii_of h; exact lv_imul hx hb hd (h H locs ls cells slots hP hS hl hk1 hk2)
  | iand => obtain ⟨x, y, r, rfl, h⟩ := ps_ii_of h; exact lv_iand hx hb hd (h H locs ls cells slots hP hS hl hk1 hk2)
  | ior => obtain ⟨x, y, r, rfl, h⟩ := ps_ii_of h; exact lv_ior hx hb hd (h H locs ls cells slots hP hS hl hk1 hk2)
  | ixor => obtain ⟨x, y, r, rfl, h⟩ := ps_ii_of h; exact lv_ixor hx hb hd (h H locs ls cells slots hP hS hl hk1 hk2)
  | ishl => obtain ⟨x, y, r, rfl, h⟩ := ps_ii_of h; exact lv_ishl hx hb hd (h H locs ls cells slots hP hS hl hk1 hk2)
  | ishr => obtain ⟨x, y, r, rfl, h⟩ := ps_ii_of h; exact lv_ishr hx hb hd (h H locs ls cells slots hP hS hl hk1 hk2)
  | iushr => obtain ⟨x, y, r, rfl, h⟩ := ps_ii_of h; exact lv_iushr hx hb hd rfl (h H locs ls cells slots hP hS hl hk1 hk2)
  | idiv => obtain ⟨x, y, r, rfl, h0, h⟩ := ps_ii_of h; exact lv_idiv hx hb hd h0 (h H locs ls cells slots hP hS hl hk1 hk2)
  | irem => obtain ⟨x, y, r, rfl, h0, h⟩ := ps_ii_of h; exact lv_irem hx hb hd h0 (h H locs ls cells slots hP hS hl hk1 hk2)
  | ineg => obtain ⟨x, r, rfl, h⟩ := ps_i_of h; exact lv_ineg hx hb hd (h H locs ls cells slots hP hS hl hk1 hk2)
  | ladd => obtain ⟨x, y, r, rfl, h⟩ := ps_ll_of h; exact lv_ladd hx hb hd (h H locs ls cells slots hP hS hl hk1 hk2)
  | lsub => obtain ⟨x, y, r, rfl, h⟩ := ps_ll_of h; exact lv_lsub hx hb hd (h H locs ls cells slots hP hS hl hk1 hk2)
  | lmul => obtain ⟨x, y, r, rfl, h⟩ := ps_ll_of h; exact lv_lmul hx hb hd (h H locs ls cells slots hP hS hl hk1 hk2)
  | land => obtain ⟨x, y, r, rfl, h⟩ := ps_ll_of h; exact lv_land hx hb hd (h H locs ls cells slots hP hS hl hk1 hk2)
  | lor => obtain ⟨x, y, r, rfl, h⟩ := ps_ll_of h; exact lv_lor hx hb hd (h H locs ls cells slots hP hS hl hk1 hk2)
  | lxor => obtain ⟨x, y, r, rfl, h⟩ := ps_ll_of h; exact lv_lxor hx hb hd (h H locs ls cells slots hP hS hl hk1 hk2)
  | lrem => obtain ⟨x, y, r, rfl, h0, h⟩ := ps_ll_of h; exact lv_lrem hx hb hd h0 (h H locs ls cells slots hP hS hl hk1 hk2)
  | ldiv => obtain ⟨x, y, r, rfl, h0, h⟩ := ps_ll_of h; exact lv_ldiv hx hb hd h0 (h H locs ls cells slots hP hS hl hk1 hk2)
  | lshr => obtain ⟨x, y, r, rfl, h⟩ := ps_li_of h; exact lv_lshr hx hb hd rfl (h H locs ls cells slots hP hS hl hk1 hk2)
  | lcmp => obtain ⟨x, y, r, rfl, h⟩ := ps_ll_of h; exact W.lcmp hx hb hd (h H locs ls cells slots hP hS hl hk1 hk2)
  | lshl => obtain ⟨x, y, r, rfl, h⟩ := ps_li_of h; exact lv_lshl hx hb hd rfl (h H locs ls cells slots hP hS hl hk1 hk2)
  | lushr => obtain ⟨x, y, r, rfl, h⟩ := ps_li_of h; exact lv_lushr hx hb hd rfl (h H locs ls cells slots hP hS hl hk1 hk2)
  | i2l => obtain ⟨x, r, rfl, h⟩ := ps_i_of h; exact lv_i2l hx hb hd rfl (h H locs ls cells slots hP hS hl hk1 hk2)
  | l2i => obtain ⟨x, r, rfl, h⟩ := ps_l_of h; exact lv_l2i hx hb hd rfl (h H locs ls cells slots hP hS hl hk1 hk2)
  | i2b => obtain ⟨x, r, rfl, h⟩ := ps_i_of h; exact lv_i2b hx hb hd rfl (h H locs ls cells slots hP hS hl hk1 hk2)
  | i2c => obtain ⟨x, r, rfl, h⟩ := ps_i_of h; exact lv_i2c hx hb hd rfl (h H locs ls cells slots hP hS hl hk1 hk2)
  | dup => obtain ⟨v, r, rfl, h1, h⟩ := ps_v_of h; exact lv_dup hx hb hd h1 (h H locs ls cells slots hP hS hl hk1 hk2)
  | dup_x1 =>
    obtain ⟨v, r, rfl, h⟩ := ps_v_of h
    obtain ⟨w, r, rfl, h1, h2, h⟩ := ps_v_of h
    exact lv_dup_x1 hx hb hd h1 h2 (h H locs ls cells slots hP hS hl hk1 hk2)
  | dup2 =>
    obtain ⟨v, r, rfl, h⟩ := ps_v_of h
    obtain ⟨w, r, rfl, h1, h2, h⟩ := ps_v_of h
    exact lv_dup2_11 hx hb hd h1 h2 (h H locs ls cells slots hP hS hl hk1 hk2)
  | pop => obtain ⟨v, r, rfl, h1, h⟩ := ps_v_of h; exact lv_pop hx hb hd h1 (h H locs ls cells slots hP hS hl hk1 hk2)
  | goto off => exact lv_goto hx hb hd (pm_jmp h.1) (h.2 H locs ls cells slots hP hS hl hk1 hk2)
  | ifCond cd off =>
    obtain ⟨hj, h⟩ := h
    obtain ⟨x, r, rfl, ht, hf⟩ := ps_i_of h
    cases cd with
    | eq => exact lv_if_eq hx hb hd (pm_jmp hj) (fun q => ht (q) H locs ls cells slots hP hS hl hk1 hk2) (fun q => hf (q) H locs ls cells slots hP hS hl hk1 hk2)
    | ne => exact lv_if_ne hx hb hd (pm_jmp hj) (fun q => ht (q) H locs ls cells slots hP hS hl hk1 hk2) (fun q => hf (fun z => z q) H locs ls cells slots hP hS hl hk1 hk2)
    | lt => exact lv_if_lt hx hb hd (pm_jmp hj) (fun q => ht (q) H locs ls cells slots hP hS hl hk1 hk2) (fun q => hf (q) H locs ls cells slots hP hS hl hk1 hk2)
    | ge => exact lv_if_ge hx hb hd (pm_jmp hj) (fun q => ht (q) H locs ls cells slots hP hS hl hk1 hk2) (fun q => hf (q) H locs ls cells slots hP hS hl hk1 hk2)
    | gt => exact lv_if_gt hx hb hd (pm_jmp hj) (fun q => ht (q) H locs ls cells slots hP hS hl hk1 hk2) (fun q => hf (q) H locs ls cells slots hP hS hl hk1 hk2)
    | le => exact lv_if_le hx hb hd (pm_jmp hj) (fun q => ht (q) H locs ls cells slots hP hS hl hk1 hk2) (fun q => hf (q) H locs ls cells slots hP hS hl hk1 hk2)
  | if_icmp cd off =>
    obtain ⟨hj, h⟩ := h
    obtain ⟨x, y, r, rfl, ht, hf⟩ := ps_ii_of h
    cases cd with
    | eq => exact lv_icmp_eq hx hb hd (pm_jmp hj) (fun q => ht (q) H locs ls cells slots hP hS hl hk1 hk2) (fun q => hf (q) H locs ls cells slots hP hS hl hk1 hk2)
    | ne => exact lv_icmp_ne hx hb hd (pm_jmp hj) (fun q => ht (q) H locs ls cells slots hP hS hl hk1 hk2) (fun q => hf (fun z => z q) H locs ls cells slots hP hS hl hk1 hk2)
    | lt => exact lv_icmp_lt hx hb hd (pm_jmp hj) (fun q => ht (q) H locs ls cells slots hP hS hl hk1 hk2) (fun q => hf (q) H locs ls cells slots hP hS hl hk1 hk2)
    | ge => exact lv_icmp_ge hx hb hd (pm_jmp hj) (fun q => ht (q) H locs ls cells slots hP hS hl hk1 hk2) (fun q => hf (q) H locs ls cells slots hP hS hl hk1 hk2)
    | gt => exact lv_icmp_gt hx hb hd (pm_jmp hj) (fun q => ht (q) H locs ls cells slots hP hS hl hk1 hk2) (fun q => hf (q) H locs ls cells slots hP hS hl hk1 hk2)
    | le => exact lv_icmp_le hx hb hd (pm_jmp hj) (fun q => ht (q) H locs ls cells slots hP hS hl hk1 hk2) (fun q => hf (q) H locs ls cells slots hP hS hl hk1 hk2)
  | if_acmp cd off =>
    obtain ⟨hj, h⟩ := h
    obtain ⟨y, r1, hst, h1⟩ := ps_q_of h
    subst hst
    obtain ⟨x, r, hr1, ht, hf⟩ := ps_q_of h1
    subst hr1
    cases cd with
    | eq => exact lv_acmp_eq hx hb hd (pm_jmp hj) (fun q => ht (⟨fun _ => q, fun _ => rfl⟩) H locs ls cells slots hP hS hl hk1 hk2) (fun q => hf (fun z => q (z.mp rfl)) H locs ls cells slots hP hS hl hk1 hk2)
    | ne => exact lv_acmp_ne hx hb hd (pm_jmp hj) (fun q => ht ⟨(fun z => by cases z), fun z => (q z).elim⟩ H locs ls cells slots hP hS hl hk1 hk2) (fun q => hf (fun z => by cases z.mpr q) H locs ls cells slots hP hS hl hk1 hk2)
  | ifnull off =>
    obtain ⟨hj, h⟩ := h
    obtain ⟨q, r, rfl, ht, hf⟩ := ps_q_of h
    cases q with
    | none => exact lv_ifnullN hx hb hd (pm_jmp hj) (ht (rfl) H locs ls cells slots hP hS hl hk1 hk2)
    | some a => exact lv_ifnull hx hb hd (hf ((fun z => by cases z)) H locs ls cells slots hP hS hl hk1 hk2)
  | ifnonnull off =>
    obtain ⟨hj, h⟩ := h
    obtain ⟨q, r, rfl, ht, hf⟩ := ps_q_of h
    cases q with
    | none => exact lv_ifnonnullN hx hb hd (hf (rfl) H locs ls cells slots hP hS hl hk1 hk2)
    | some a => exact lv_ifnonnull hx hb hd (pm_jmp hj) (ht ((fun z => by cases z)) H locs ls cells slots hP hS hl hk1 hk2)
  | tableswitch d lo hg offs =>
    obtain ⟨x, r, rfl, ho, hin⟩ := ps_i_of h
    by_cases h1 : x.toInt < lo
    · obtain ⟨hj, h⟩ := ho (Or.inl h1)
      exact lv_tableOut hx hb hd (Or.inl h1) (pm_jmp hj) (h H locs ls cells slots hP hS hl hk1 hk2)
    · by_cases h2 : hg < x.toInt
      · obtain ⟨hj, h⟩ := ho (Or.inr h2)
        exact lv_tableOut hx hb hd (Or.inr h2) (pm_jmp hj) (h H locs ls cells slots hP hS hl hk1 hk2)
      · obtain ⟨off, hoff, hj, h⟩ := pm_opt_of (hin h1 h2)
        exact lv_tableIn hx hb hd h1 h2 hoff (pm_jmp hj) (h H locs ls cells slots hP hS hl hk1 hk2)
  | getfield i =>
    obtain ⟨f, hf, h⟩ := pm_opt_of h
    obtain ⟨a, r, rfl, h⟩ := ps_r_of h
    obtain ⟨fs, hM, h⟩ := pm_ob_of h
    obtain ⟨v, hv, h⟩ := pm_opt_of h
    obtain ⟨C, T, N, ty, Ts, g1, g2, g3, g4, g5, g6, g7, g8, -⟩ := hfld i f hf
    obtain ⟨tys, hK, r, cell, o1, q1, q2, q3, q3', q4⟩ := hP.ob hM
    have hr : r = (C, T, N) := Option.some.inj (o1.symm.trans g1)
    subst hr
    obtain ⟨hS', hfc, kC, hkC, hkind⟩ := hK.1 f.1 _ g1
    obtain ⟨cf, kf, fi, fd, hi', hsl⟩ := hS' f.2.1 g2
    have hst := (u_facts hfc hkC (u_lays g3 g4 g2) hi').1
    have hsv : cell.slots[fd.slot]? = some v := by
      rw [hsl, q4 _ g2]
      simp [vp_V, hv]
    rcases g8 with g8 | ⟨host, g8⟩
    · exact W.getf hx hb hown g8 hi' hst q1 q3 hsv rfl rfl hd (h H locs ls cells slots hP hS hl hk1 hk2)
    · exact va_Wgetf hx hb hown g8 hi' hst q1 q3 hsv rfl rfl hd (h H locs ls cells slots hP hS hl hk1 hk2)
  | putfield i =>
    obtain ⟨f, hf, h⟩ := pm_opt_of h
    obtain ⟨v, r, rfl, h⟩ := ps_v_of h
    obtain ⟨a, r, rfl, h⟩ := ps_r_of h
    obtain ⟨fs, hM, hba, hlen, hn, hfit, hw, h⟩ := pm_ob_of h
    obtain ⟨C, T, N, ty, Ts, g1, g2, g3, g4, g5, g6, g7, g8, g9⟩ := hfld i f hf
    obtain ⟨ws, tys, k, hK, hPw, hD, hk, hq⟩ := hP.atO hM hba
    have fin : ∀ (H1 : Heap) (locs1 : List Loc), va_P D cl (ws.set k (a, .inr (f.1, fs.set f.2.1 v))) H1 → va_D (fun q => base ≤ q) (ws.set k (a, .inr (f.1, fs.set f.2.1 v))) → va_S (fun q => base ≤ q) s.heap H1 locs1 → W p l e R s m args below meth c H1 locs1 cells slots Q (F0 m (pc + 3) ls r) := fun H1 locs1 hP1 hD1 hS1 => h H1 locs1 ls cells slots (pm_P.set hK hq hk hba pm_rel_o hD1 hP1 (pm_low hbs hS hS1)) hS1 hl hk1 hk2
    have g7' : parseFieldDescriptor (T f.2.1).2.2.1 = some f.2.2.1 := by rw [g5 _ g2, g7]
    rcases g9 hw with g9 | ⟨g9, g10, g11, g12⟩
    · rcases g8 with g8 | ⟨host, g8⟩
      · exact va_put hx hb g3 g4 ty g5 g6 hown hK hPw hD hS k hk g1 f.2.1 g2 g8 (fun _ z => z) g9 g7' hn hfit hlen hd fin
      · exact va_putN hx hb g3 g4 ty g5 g6 hown hK hPw hD hS k hk g1 f.2.1 g2 g8 (fun _ z => z) g9 g7' hn hfit hlen hd fin
    · exact va_putF hx hb g3 g4 ty g5 g6 hown hK hPw hD hS k hk g1 f.2.1 g2 g12 (fun _ z => z) g9 g10 g11 g7' hn hfit hlen hd fin
  | getstatic i =>
    obtain ⟨v, hv, h⟩ := pm_opt_of h
    obtain ⟨C, nm, ds, hZm, g8⟩ := hsta i v hv
    have hZ := hZ0.1 _ hZm
    rcases g8 with g8 | ⟨host, g8⟩
    · exact va_gets hx hb hZ hS hown g8 (fun _ z => z) hd (h H locs ls cells slots hP hS hl hk1 hk2)
    · exact va_getsN hx hb hZ hS hown g8 (fun _ z => z) hd (h H locs ls cells slots hP hS hl hk1 hk2)
  | arraylength =>
    obtain ⟨a, r, rfl, h⟩ := ps_r_of h
    obtain ⟨ty, N, x, hM, h⟩ := pm_al_len h
    exact pm_rdn hx hb hP hM hd (h H locs ls cells slots hP hS hl hk1 hk2)
  | iaload =>
    obtain ⟨i, r, rfl, h⟩ := ps_i_of h
    obtain ⟨a, r, rfl, h⟩ := ps_r_of h
    obtain ⟨ty, n, f, hM, hty, hin, h⟩ := pm_ai_of h
    cases ty with
    | int => exact pm_rdi hx hb hP hM hin hd (h H locs ls cells slots hP hS hl hk1 hk2)
    | _ => cases hty
  | baload =>
    obtain ⟨i, r, rfl, h⟩ := ps_i_of h
    obtain ⟨a, r, rfl, h⟩ := ps_r_of h
    obtain ⟨ty, n, f, hM, hty, hin, h⟩ := pm_ai_of h
    cases ty with
    | byte => exact pm_rdb hx hb hP hM hin hd (h H locs ls cells slots hP hS hl hk1 hk2)
    | boolean => exact pm_rdz hx hb hP hM hin hd (h H locs ls cells slots hP hS hl hk1 hk2)
    | _ => cases hty
  | caload =>
    obtain ⟨i, r, rfl, h⟩ := ps_i_of h
    obtain ⟨a, r, rfl, h⟩ := ps_r_of h
    obtain ⟨ty, N, f, hM, hty, hin, h⟩ := pm_ai_of h
    cases ty with
    | char => exact pm_rdc hx hb hP hM hin hd (h H locs ls cells slots hP hS hl hk1 hk2)
    | _ => cases hty
  | laload =>
    obtain ⟨i, r, rfl, h⟩ := ps_i_of h
    obtain ⟨a, r, rfl, h⟩ := ps_r_of h
    obtain ⟨N, f, hM, hin, h⟩ := pm_al_of h
    obtain ⟨ws, tys, k, t, cA, hK, hPw, hD, hk, ht, hq⟩ := hP.wl hM
    exact va_lald hx hb hK hPw k t hk ht hin hd (h H locs ls cells slots hP hS hl hk1 hk2)
  | aaload =>
    obtain ⟨i, r, rfl, h⟩ := ps_i_of h
    obtain ⟨a, r, rfl, h⟩ := ps_r_of h
    obtain ⟨ty, N, f, hM, hty, hin, h⟩ := pm_aq_of h
    exact pm_rda hx hb hP hM hty hin hd (h H locs ls cells slots hP hS hl hk1 hk2)
  | iastore =>
    obtain ⟨i, x, r, rfl, h⟩ := ps_ii_of h
    obtain ⟨a, r, rfl, h⟩ := ps_r_of h
    obtain ⟨ty, N, f, hM, hty, hba, hin, h⟩ := pm_ai_of h
    obtain ⟨ws, tys, k, t, cA, hK, hPw, hD, hk, ht, hq⟩ := hP.at hM hba
    cases ty with
    | int => exact va_iast hx hb hK hPw hD hS k t hk ht hin hd (fun H1 locs1 hP1 hD1 hS1 => h H1 locs1 ls cells slots (pm_P.set hK hq hk hba (pm_rel_a ht) hD1 hP1 (pm_low hbs hS hS1)) hS1 hl hk1 hk2)
    | _ => cases hty
  | bastore =>
    obtain ⟨i, x, r, rfl, h⟩ := ps_ii_of h
    obtain ⟨a, r, rfl, h⟩ := ps_r_of h
    obtain ⟨ty, N, f, hM, hty, hba, hin, h⟩ := pm_ai_of h
    obtain ⟨ws, tys, k, t, cA, hK, hPw, hD, hk, ht, hq⟩ := hP.at hM hba
    cases ty with
    | byte => exact va_bast hx hb hK hPw hD hS k t hk ht hin hd (fun H1 locs1 hP1 hD1 hS1 => h H1 locs1 ls cells slots (pm_P.set hK hq hk hba (pm_rel_a ht) hD1 hP1 (pm_low hbs hS hS1)) hS1 hl hk1 hk2)
    | boolean => exact va_zast hx hb hK hPw hD hS k t hk ht hin hd (fun H1 locs1 hP1 hD1 hS1 => h H1 locs1 ls cells slots (pm_P.set hK hq hk hba (pm_rel_a ht) hD1 hP1 (pm_low hbs hS hS1)) hS1 hl hk1 hk2)
    | _ => cases hty
  | castore =>
    obtain ⟨i, x, r, rfl, h⟩ := ps_ii_of h
    obtain ⟨a, r, rfl, h⟩ := ps_r_of h
    obtain ⟨ty, N, f, hM, hty, hba, hin, h⟩ := pm_ai_of h
    obtain ⟨ws, tys, k, t, cA, hK, hPw, hD, hk, ht, hq⟩ := hP.at hM hba
    cases ty with
    | char => exact va_cast hx hb hK hPw hD hS k t hk ht hin hd (fun H1 locs1 hP1 hD1 hS1 => h H1 locs1 ls cells slots (pm_P.set hK hq hk hba (pm_rel_a ht) hD1 hP1 (pm_low hbs hS hS1)) hS1 hl hk1 hk2)
    | _ => cases hty
  | lastore =>
    obtain ⟨x, r, rfl, h⟩ := ps_l_of h
    obtain ⟨i, r, rfl, h⟩ := ps_i_of h
    obtain ⟨a, r, rfl, h⟩ := ps_r_of h
    obtain ⟨N, f, hM, hba, hin, h⟩ := pm_al_of h
    obtain ⟨ws, tys, k, t, cA, hK, hPw, hD, hk, ht, hq⟩ := hP.at hM hba
    exact va_last hx hb hK hPw hD hS k t hk ht hin hd (fun H1 locs1 hP1 hD1 hS1 => h H1 locs1 ls cells slots (pm_P.set hK hq hk hba (pm_rel_a ht) hD1 hP1 (pm_low hbs hS hS1)) hS1 hl hk1 hk2)
  | aastore =>
    unfold pm_ins at h
    dsimp only at h
    obtain ⟨q, r1, hst, h1⟩ := ps_q_of h
    subst hst
    obtain ⟨i, r2, hr1, h2⟩ := ps_i_of (st := r1) h1
    subst hr1
    obtain ⟨a, r, hr2, h3⟩ := ps_r_of (st := r2) h2
    subst hr2
    clear h
    obtain ⟨ty, N, f, hM, C, hty, hba, hin, hv, h⟩ := pm_aq_of h3
    subst hty
    obtain ⟨ws, tys, k, t, cA, hK, hPw, hD, hk, ht, hq⟩ := hP.at hM hba
    cases q with
    | none => exact va_astqN hx hb hK hPw hD hS k t hk ht hin hd (fun H1 locs1 hP1 hD1 hS1 => h H1 locs1 ls cells slots (pm_P.set hK hq hk hba (pm_rel_a ht) hD1 hP1 (pm_low hbs hS hS1)) hS1 hl hk1 hk2)
    | some b =>
      obtain ⟨hbb, ci, w, fs, hMb, hw, rfl⟩ := hv b rfl
      rcases hq b _ hMb with ⟨-, kb, vb, hkb, hvb⟩ | ⟨z, -⟩
      · cases vb with
        | inl y => exact hvb.elim
        | inr o =>
          have eo : (ci, fs) = o := hvb
          subst eo
          exact va_astq hx hb hK hPw hD hS k t kb ci hk ht hkb hw hin hd (fun H1 locs1 hP1 hD1 hS1 => h H1 locs1 ls cells slots (pm_P.set hK hq hk hba (pm_rel_a ht) hD1 hP1 (pm_low hbs hS hS1)) hS1 hl hk1 hk2)
      · omega
  | new i =>
    obtain ⟨o, ho, g1, g2, h⟩ := pm_opt_of h
    obtain ⟨C, T, ty, Ts, f1, f2, f3, f4, f5, f6, f7, f8⟩ := hmk i o ho
    obtain ⟨ws, tys, hK, hPw, hD, hq⟩ := hP
    refine va_new hx hb f2 f3 ty f4 hown f5 f6 f7 hK hPw hD hS hA f1 f8 (by omega) (by omega) hd (fun q H1 hP1 hD1 hS1 => ?_)
    obtain ⟨n1, n2, hP2⟩ := pm_P.push (t2 := []) (e := .inr o) (by rw [List.append_nil]; exact hK) hq pm_rel_o hD1 hP1 (pm_low hbs hS hS1)
    exact (h q n1 n2) H1 locs ls _ _ hP2 hS1 hl (by omega) (by omega)
  | newarray t =>
    obtain ⟨gt, h⟩ := h
    obtain ⟨N, r, rfl, g0, g1, g2, g3, h⟩ := ps_i_of h
    obtain ⟨ws, tys, hK, hPw, hD, hq⟩ := hP
    refine va_newa (ty := newarray.typeOf t) (a0 := (N.toNatClampNeg, pm_zero t)) hx hb (hnar t gt) rfl hK hPw hD hS hA (fun cA => by cases t <;> rfl) g0 rfl (pm_bytes t g1) (by omega) (by omega) hd (fun q cA H1 hK1 hP1 hD1 hS1 => ?_)
    obtain ⟨n1, n2, hP2⟩ := pm_P.push (t2 := [(cA, newarray.typeOf t)]) (e := .inl (newarray.typeOf t, N.toNatClampNeg, pm_zero t)) hK1 hq (pm_rel_a (t := tys.length) (by simp)) hD1 hP1 (pm_low hbs hS hS1)
    exact (h q n1 n2) H1 locs ls _ _ hP2 hS1 hl (by omega) (by omega)
  | anewarray i =>
    obtain ⟨C, hC, h⟩ := pm_opt_of h
    obtain ⟨N, r, rfl, g0, g1, g2, g3, h⟩ := ps_i_of h
    obtain ⟨a1, a2⟩ := harr i C hC
    obtain ⟨ws, tys, hK, hPw, hD, hq⟩ := hP
    refine va_newq hx hb hown a1 a2 hK hPw hD hS hA g0 rfl (by omega) (by omega) (by omega) hd (fun q cA H1 hK1 hP1 hD1 hS1 => ?_)
    obtain ⟨n1, n2, hP2⟩ := pm_P.push (t2 := [(cA, .object C)]) (e := .inl (.object C, N.toNatClampNeg, .inr (.inr (.inr (.inr fun _ => none))))) hK1 hq (pm_rel_a (t := tys.length) (by simp)) hD1 hP1 (pm_low hbs hS hS1)
    exact (h q n1 n2) H1 locs ls _ _ hP2 hS1 hl (by omega) (by omega)
  | invokevirtual i =>
    obtain ⟨⟨yk, yn, yT⟩, hy, rfl, g1, g2, h⟩ := pm_opt_of h
    have hr := hcal i _ hy Q pc ls (st.take yn).reverse (st.drop yn) M kc ks cells slots _ H locs hd (by rw [List.length_reverse, List.length_take]; exact Nat.min_eq_left g1) g2 hl.1 (by omega) (by omega) hP hS h (fun v M1 kc1 ks1 cells1 slots1 H1 locs1 hRt hP1 hS1 z1 z2 => hRt H1 locs1 ls _ _ hP1 hS1 hl (by omega) (by omega))
    rw [List.reverse_reverse, List.take_append_drop] at hr
    exact hr
  | invokespecial i =>
    obtain ⟨⟨yk, yn, yT⟩, hy, rfl, g1, g2, h⟩ := pm_opt_of h
    have hr := hcal i _ hy Q pc ls (st.take yn).reverse (st.drop yn) M kc ks cells slots _ H locs hd (by rw [List.length_reverse, List.length_take]; exact Nat.min_eq_left g1) g2 hl.1 (by omega) (by omega) hP hS h (fun v M1 kc1 ks1 cells1 slots1 H1 locs1 hRt hP1 hS1 z1 z2 => hRt H1 locs1 ls _ _ hP1 hS1 hl (by omega) (by omega))
    rw [List.reverse_reverse, List.take_append_drop] at hr
    exact hr
  | invokestatic i =>
    obtain ⟨⟨yk, yn, yT⟩, hy, rfl, g1, g2, h⟩ := pm_opt_of h
    have hr := hcal i _ hy Q pc ls (st.take yn).reverse (st.drop yn) M kc ks cells slots _ H locs hd (by rw [List.length_reverse, List.length_take]; exact Nat.min_eq_left g1) g2 hl.1 (by omega) (by omega) hP hS h (fun v M1 kc1 ks1 cells1 slots1 H1 locs1 hRt hP1 hS1 z1 z2 => hRt H1 locs1 ls _ _ hP1 hS1 hl (by omega) (by omega))
    rw [List.reverse_reverse, List.take_append_drop] at hr
    exact hr
  | multianewarray i d =>
    obtain ⟨⟨yk, yn, yT⟩, hy, hk3, hd2, g1, g2, h9⟩ := pm_opt_of h
    have hk3 : yk = 3 := hk3
    subst hk3
    subst hd2
    have hd' : decode cc pc = .ok (pm_inv 3 (100000 + i), pm_ilen 3) := by
      have e0 : pm_inv 3 (100000 + i) = .multianewarray i 2 := by
        show Instr.multianewarray (100000 + i - 100000) 2 = _
        rw [Nat.add_sub_cancel_left]
      rw [e0]
      exact hd
    have hr := hcal (100000 + i) _ hy Q pc ls (st.take yn).reverse (st.drop yn) M kc ks cells slots _ H locs hd' (by rw [List.length_reverse, List.length_take]; exact Nat.min_eq_left g1) g2 hl.1 (by omega) (by omega) hP hS h9 (fun v M1 kc1 ks1 cells1 slots1 H1 locs1 hRt hP1 hS1 z1 z2 => hRt H1 locs1 ls _ _ hP1 hS1 hl (by omega) (by omega))
    rw [List.reverse_reverse, List.take_append_drop] at hr
    exact hr
  | ireturn =>
    obtain ⟨x, ty, rfl, g1, g2, h⟩ := h
    exact hret _ _ _ pc M H locs ls cells slots kc ks hd (Or.inl ⟨x, ty, rfl, rfl, rfl, g1, g2⟩) h hP hS hk1 hk2
  | lreturn =>
    obtain ⟨x, rfl, g1, h⟩ := h
    exact hret _ _ _ pc M H locs ls cells slots kc ks hd (Or.inr (Or.inl ⟨x, rfl, rfl, rfl, g1⟩)) h hP hS hk1 hk2
  | areturn =>
    obtain ⟨q, ty, rfl, g1, g2, h⟩ := h
    exact hret _ _ _ pc M H locs ls cells slots kc ks hd (Or.inr (Or.inr (Or.inl ⟨q, ty, rfl, rfl, rfl, g1, g2⟩))) h hP hS hk1 hk2
  | return_ =>
    obtain ⟨rfl, g1, h⟩ := h
    exact hret _ _ _ pc M H locs ls cells slots kc ks hd (Or.inr (Or.inr (Or.inr ⟨rfl, rfl, rfl, g1⟩))) h hP hS hk1 hk2
  | _ => exact False.elim h
end Main
