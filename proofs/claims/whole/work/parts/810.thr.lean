/-! textAt of the class throws; the law catches it. -/
section Thr
def tSC : List Cond := [.laysStatic Bundle.tN "UNASSIGNED_STACK" Bundle.steD, .isRef (.static Bundle.tN "UNASSIGNED_STACK" Bundle.steD), .laysStatic Bundle.tN "SUPPRESSED_SENTINEL" Bundle.listD, .isRef (.static Bundle.tN "SUPPRESSED_SENTINEL" Bundle.listD), .declares ⟨"java/lang/RuntimeException", "<init>", "(Ljava/lang/String;)V"⟩, .declares ⟨"java/lang/Exception", "<init>", "(Ljava/lang/String;)V"⟩, .declares ⟨"java/lang/Throwable", "<init>", "(Ljava/lang/String;)V"⟩, .castable nsN nsN]
/-- what Throwable's statics are, before all and ever -/
def pm_SW (U : State) : Prop := ∀ w ∈ tSC, w.before #[] U = true
theorem pm_SW.kept {s U : State} (h : pm_SW s) (hH : ∀ a, a < s.heap.size → U.heap[a]? = s.heap[a]?) (hvm : s.vm.Alike U.vm) : pm_SW U := by
  have key : ∀ n d : String, (Cond.laysStatic Bundle.tN n d).before #[] s = true → (Cond.isRef (.static Bundle.tN n d)).before #[] s = true → (Cond.laysStatic Bundle.tN n d).before #[] U = true ∧ (Cond.isRef (.static Bundle.tN n d)).before #[] U = true := by
    intro n d h1 h2
    obtain ⟨c, k, i, f, a, cell, hc, hi, hst, ha, hcell, hs, hcls, hlt, hty⟩ := Cond.laysStatic_spec (args := #[]) (first := s) (o := none) (s := s) (idx := []) h1
    obtain ⟨k', hi', hek⟩ := State.fieldFound?_setVm hvm hi
    have hcU : U.heap[a]? = some cell := (hH a (Array.getElem?_eq_some_iff.mp hcell).1).trans hcell
    obtain ⟨u, hu⟩ := Cond.staticRefV (args := #[]) (first := s) (o := none) (s := s) (idx := []) hi hst ha hcell hs h2
    have hev := Term.static_eval (args := #[]) (first := U) (o := none) (idx := []) (s := U) hi' hst (by rw [hek]; exact ha) hcU hs hu
    refine ⟨Cond.laysStatic_of (args := #[]) (first := U) (o := none) (idx := []) (s := U) (by rw [hvm.findClass]; exact hc) hi' hst (by rw [hek]; exact ha) hcU hs hcls hlt (by rw [hek]; exact hty), ?_⟩
    have hu2 := u.ok
    simp only [Cond.before, Cond.holds, Cond.value, hev]
    revert hu2
    cases u.v <;> simp [Value.isRef]
  have k1 := key "UNASSIGNED_STACK" Bundle.steD (h _ (by simp [tSC])) (h _ (by simp [tSC]))
  have k2 := key "SUPPRESSED_SENTINEL" Bundle.listD (h _ (by simp [tSC])) (h _ (by simp [tSC]))
  have kd : ∀ x : MethodName, (Cond.declares x).before #[] s = true → (Cond.declares x).before #[] U = true := fun x h => va_tabs rfl (rfl : (s.setVm U.vm).vm = U.vm) (by rw [Cond.declares_setVm hvm]; exact h)
  intro w hw
  simp only [tSC, List.mem_cons, List.not_mem_nil, or_false] at hw
  rcases hw with rfl | rfl | rfl | rfl | rfl | rfl | rfl | rfl
  · exact k1.1
  · exact k1.2
  · exact k2.1
  · exact k2.2
  · exact kd _ (h _ (by simp [tSC]))
  · exact kd _ (h _ (by simp [tSC]))
  · exact kd _ (h _ (by simp [tSC]))
  · exact va_tabs rfl (rfl : (s.setVm U.vm).vm = U.vm) (by rw [Cond.castable_setVm hvm]; exact h _ (by simp [tSC]))
theorem pm_SW.use {s : State} (h : pm_SW s) (args : Array Value) : ∀ w ∈ tSC, w.before args s = true := by
  intro w hw
  have h1 := h w hw
  simp only [tSC, List.mem_cons, List.not_mem_nil, or_false] at hw
  rcases hw with rfl | rfl | rfl | rfl | rfl | rfl | rfl | rfl <;> first | exact va_any rfl h1 | exact h1
set_option maxRecDepth 100000 in
theorem ow_in : ∀ w ∈ nsA, w ∈ tSC ∨ (w ∈ tables_1 ∧ goodWord w = true) := by decide +kernel
section Gf
variable {p : Program} {l : Launch} {e : Env} {R : Room} {s : State} {m : MethodId} {args : Array Value} {below : List Frame} {meth : Method} {c : Code} {Q : State → Prop} {cc : ByteArray} {D : va_G} {cl : List vw_C} {base : Nat} {own : String}
/-- a field, read by the machine itself -/
theorem pm_wgf (hx : p.tables.exec = Jvm.exec) (hb : c.code = cc) (hown : s.vm.findClass own = some m.cls) {M : pmM} {H : Heap} {locs : List Loc} {cells slots pc i a : Nat} {ls : Array Slot} {r : List Value} {f : Nat × Nat × FieldType × Bool} {fs : List Value} {v : Value} (hf : pm_fok cl own meth args s i f) (hP : pm_P D cl base M s H) (hM : M a = some (.inr (f.1, fs))) (hv : fs[f.2.1]? = some v) (hd : decode cc pc = .ok (.getfield i, 3)) (kk : W p l e R s m args below meth c H locs cells slots Q (F0 m (pc + 3) ls (v :: r))) : W p l e R s m args below meth c H locs cells slots Q (F0 m pc ls (.ref a :: r)) := by
  obtain ⟨C, T, N, ty, Ts, g1, g2, g3, g4, g5, g6, g7, g8, -⟩ := hf
  obtain ⟨tys, hK, r0, cell, o1, q1, q2, q3, q3', q4⟩ := hP.ob hM
  have hr : r0 = (C, T, N) := Option.some.inj (o1.symm.trans g1)
  subst hr
  obtain ⟨hS', hfc, kC, hkC, hkind⟩ := hK.1 f.1 _ g1
  obtain ⟨cf, kf, fi, fd, hi', hsl⟩ := hS' f.2.1 g2
  have hst := (u_facts hfc hkC (u_lays g3 g4 g2) hi').1
  have hsv : cell.slots[fd.slot]? = some v := by
    rw [hsl, q4 _ g2]
    simp [vp_V, hv]
  rcases g8 with g8 | ⟨host, g8⟩
  · exact W.getf hx hb hown g8 hi' hst q1 q3 hsv rfl rfl hd kk
  · exact va_Wgetf hx hb hown g8 hi' hst q1 q3 hsv rfl rfl hd kk
end Gf
/-- what the class's textAt leaves when it throws -/
def tx_Q : Array Value → State → Outcome → State → Prop := fun _ st o t => ∃ (q : Addr) (ce : Cell), o = .threw q ∧ t.heap[q]? = some ce ∧ ce.vm.isStatics = false ∧ st.vm.findClass nsN = some ce.cls ∧ FrameEndT st o t [] 1 6
def tx_y : MethodName := ⟨"RoutingField", "textAt", "(I)I"⟩
def tx_ws : List Cond := Cond.code tx_y prog_1_method_16_code 2 (some .int) :: pw_T
def tx_P (D : va_G) (base : Nat) (sa : Nat → Nat) (M : pmM) (As : List Value) : Array Value → State → Prop := va_Pc As (fun U => base ≤ U.heap.size ∧ pm_P D kcl base M U U.heap ∧ pm_Z base (kZ sa) U U.heap ∧ pm_SW U)
set_option maxRecDepth 100000 in
set_option maxHeartbeats 4000000 in
theorem tx_thr (l : Launch) (hl : l.stackTraces = false) (D : va_G) (base : Nat) (sa : Nat → Nat) {x tx : Nat} {i n : Int32} {fs gs : List Value} {M : pmM} {mc ms : Nat} (hMx : M x = some (.inr (11, fs))) (hf1 : fs[1]? = some (.ref tx)) (hMt : M tx = some (.inr (0, gs))) (hg1 : gs[1]? = some (.int n)) (hi : i < 0 ∨ n ≤ i) (hmc : 1 ≤ mc) (hms : 6 ≤ ms) :
    MetFree l tx_y (headSpec tx_ws { frames := 7, cells := mc, slots := ms, locals := 110 }) (tx_P D base sa M [.ref x, .int i]) (fun _ _ _ _ _ => True) tx_Q := by
  refine MetFree.of_bodyS (code := prog_1_method_16_code) (maxLocals := 2) (ret := some .int) (by decide) ?_ ?_
  · intro args s m h hn
    obtain ⟨meth, c, h1, h2, h3, h4, h5, h6, -, -⟩ := Cond.code_spec hn (atoms_spec (ws := tx_ws) h _ List.mem_cons_self)
    exact ⟨meth, c, h1, h2, h3, h4, h5, h6⟩
  · intro p e s m args below meth c s₁ B hml hPc _
    obtain ⟨rfl, hbs, hPp, hZ, hSW⟩ := hPc
    have hx := B.exec
    have hb := B.bytes
    have hts := atoms_spec (ws := tx_ws) B.pre
    have hown : s.vm.findClass "RoutingField" = some m.cls := findClass_of_methodNamed B.named
    have hlocks := B.notSynchronized
    have ht : ∀ w ∈ pw_T, w.before ([.ref x, .int i] : List Value).toArray s = true := fun w h => hts w (List.mem_cons_of_mem _ h)
    have hh0 : s₁.heap = s.heap := by rw [B.state]; rfl
    have X₀ := Stand.of_body B
    have htr : e.platform.stackTraces = false := by rw [X₀.admits.platform]; exact hl
    have hnoH : c.exceptionTable.toList = [] := by
      have := B.noHandlers (hts _ List.mem_cons_self)
      simpa using this
    have hat : ∀ w ∈ nsA, w.before ([.ref x, .int i] : List Value).toArray s = true := fun w hw => by
      rcases ow_in w hw with h | ⟨h1, h2⟩
      · exact hSW.use _ w h
      · exact ht w (List.mem_filter.mpr ⟨List.mem_append_right _ h1, h2⟩)
    have hfl : ∀ (j : Nat) (f : Nat × Nat × FieldType × Bool), kfld kF_Rf false j = some f → pm_fok kcl "RoutingField" meth ([.ref x, .int i] : List Value).toArray s j f := kf_ok (init := false) ht hZ kF_Rf_ok (fun h => by cases h)
    have key : W p l e (headSpec tx_ws { frames := 7, cells := mc, slots := ms, locals := 110 }).room s m ([.ref x, .int i] : List Value).toArray below meth c s.heap [] 0 0 (fun t => ∃ o, t.status = .running ∧ Ended t below o ∧ tx_Q ([.ref x, .int i] : List Value).toArray s o t) (entryFrame m ([.ref x, .int i] : List Value).toArray 2) := by
      have hl2 := lv_entry ([.ref x, .int i] : List Value) (n := 2) (Nat.le_of_ble_eq_true rfl)
      rw [lg_entry_eq]
      generalize (lg_sl ([.ref x, .int i] : List Value) ++ List.replicate (2 - (lg_sl ([.ref x, .int i] : List Value)).length) Slot.unset).toArray = ls at hl2 ⊢
      have g15 : W p l e (headSpec tx_ws { frames := 7, cells := mc, slots := ms, locals := 110 }).room s m ([.ref x, .int i] : List Value).toArray below meth c s.heap [] 0 0 (fun t => ∃ o, t.status = .running ∧ Ended t below o ∧ tx_Q ([.ref x, .int i] : List Value).toArray s o t) (F0 m 15 ls []) := by
        refine W.newc (C := nsN) (n := 6) (index := 247) hx hb hown (ht _ (pw_in 1908 (by decide +kernel) rfl)) (ht _ (pw_in 1909 (by decide +kernel) rfl)) (ht _ (pw_in 24 (by decide +kernel) rfl)) (g := F0 m 15 ls []) rfl (show decode prog_1_method_16_code 15 = .ok (.new 247, 3) by decide +kernel) (by show 0 + 1 ≤ mc; omega) (by show 0 + 6 ≤ ms; omega) (fun cC kC h1 h2 h3 h4 => ?_)
        refine lv_dup hx hb (show decode prog_1_method_16_code 18 = .ok (.dup, 1) by decide +kernel) rfl ?_
        refine va_ldcS hx hb hown (hZ.2.1 _ (List.mem_of_getElem? (i := 89) rfl)) (show decode prog_1_method_16_code 19 = .ok (.ldc 249, 2) by decide +kernel) ?_
        intro T hT X
        obtain ⟨U, hsteps, hrun, hend, hW, hsame, ce, hce, hcc, hcv⟩ := ns_ctor X hx htr hown hat h1 h2 (a := s.heap.size) (by rw [hT]; exact Array.getElem?_push_size) (Nat.le_refl _) (msg := .ref (sa 48)) rfl
          (g := F0 m 21 ls [.ref (sa 48), .ref s.heap.size, .ref s.heap.size]) rfl (hl2.1.trans hml.symm) rfl rfl rfl (by rw [hb]; exact (show decode prog_1_method_16_code 21 = .ok (.invokespecial 251, 3) by decide +kernel)) (by rw [hb]; exact (show decode prog_1_method_16_code 24 = .ok (.athrow, 1) by decide +kernel)) hnoH (by show 5 < 7; decide) (by show 2 * 0 + 82 ≤ 110; decide) hlocks
        exact ⟨U, hsteps, .threw s.heap.size, hrun, hend, s.heap.size, ce, rfl, hce, by rw [hcv]; rfl, by rw [hcc]; exact h1, ⟨_, rfl⟩, hW, hsame⟩
      by_cases h0 : i < 0
      · refine lv_iload_n hx hb (show decode prog_1_method_16_code 0 = .ok (.iload_n 1, 1) by decide +kernel) rfl (lv_at hl2 1 rfl) ?_
        exact lv_if_lt hx hb (show decode prog_1_method_16_code 1 = .ok (.ifCond .lt 14, 3) by decide +kernel) (show ((1 : Nat) : Int) + 14 = ((15 : Nat) : Int) from rfl) (fun _ => g15) (fun q => absurd h0 q)
      · have hni : n ≤ i := hi.resolve_left h0
        refine lv_iload_n hx hb (show decode prog_1_method_16_code 0 = .ok (.iload_n 1, 1) by decide +kernel) rfl (lv_at hl2 1 rfl) ?_
        refine lv_if_lt hx hb (show decode prog_1_method_16_code 1 = .ok (.ifCond .lt 14, 3) by decide +kernel) (show ((1 : Nat) : Int) + 14 = ((15 : Nat) : Int) from rfl) (fun q => absurd q h0) (fun _ => ?_)
        refine lv_iload_n hx hb (show decode prog_1_method_16_code 4 = .ok (.iload_n 1, 1) by decide +kernel) rfl (lv_at hl2 1 rfl) ?_
        refine lv_aload_n hx hb (show decode prog_1_method_16_code 5 = .ok (.aload_n 0, 1) by decide +kernel) rfl (lv_at hl2 0 rfl) ?_
        refine pm_wgf hx hb hown (hfl 18 _ rfl) hPp hMx hf1 (show decode prog_1_method_16_code 6 = .ok (.getfield 18, 3) by decide +kernel) ?_
        refine pm_wgf hx hb hown (hfl 99 _ rfl) hPp hMt hg1 (show decode prog_1_method_16_code 9 = .ok (.getfield 99, 3) by decide +kernel) ?_
        exact lv_icmp_lt hx hb (show decode prog_1_method_16_code 12 = .ok (.if_icmp .lt 13, 3) by decide +kernel) (show ((12 : Nat) : Int) + 13 = ((25 : Nat) : Int) from rfl) (fun q => absurd q (Int32.not_lt.mpr hni)) (fun _ => g15)
    obtain ⟨t, a1, o, b1, b2, b3⟩ := key s₁ hh0 X₀
    exact ⟨t, o, a1, b1, b2, b3⟩
end Thr
