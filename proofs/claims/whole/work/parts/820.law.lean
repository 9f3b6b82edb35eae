/-! The law's own textAt; the law's body. -/
theorem pm_P.grown {D : va_G} {cl : List vw_C} {base : Nat} {M : pmM} {U : State} {H H1 : Heap} (h : pm_P D cl base M U H) (hb : base ≤ H.size) (hH : ∀ a, a < H.size → H1[a]? = H[a]?) : pm_P D cl base M U H1 := by
  obtain ⟨ws, tys, hK, hP, hD, hM⟩ := h
  refine ⟨ws, tys, hK, hP.kept (fun k q hq => hH _ (hP k q hq).lt), hD, fun a e he => ?_⟩
  rcases hM a e he with h | ⟨h1, h2⟩
  · exact Or.inl h
  · exact Or.inr ⟨h1, h2.kept (hH a (by omega))⟩
def lt_y : MethodName := ⟨"RoutingFieldLaw", "textAt", "(LRoutingField;I[J)I"⟩
def lt_h : List (Nat × Nat × Nat × Nat) := [(0, 9, 12, 13)]
def lt_ws : List Cond := Cond.codeWith lt_y method_3_code 4 (some .int) lt_h :: pw_T
set_option maxRecDepth 100000 in
theorem kD_La_textAt_0 : ∀ q ∈ kC_La_textAt_0, decode method_3_code q.1 = .ok (q.2, pm_len q.1 q.2) := by decide +kernel
theorem kD_La_textAt : ∀ q ∈ kC_La_textAt, decode method_3_code q.1 = .ok (q.2, pm_len q.1 q.2) := kD_La_textAt_0
section LtMet
set_option maxRecDepth 100000 in
set_option maxHeartbeats 4000000 in
theorem lt_met (l : Launch) (hl : l.stackTraces = false) (D : va_G) (base : Nat) (sa : Nat → Nat) (As : List Value) (M : pmM) (mc ms : Nat) (Rt : pmR) (hT : kT_La_textAt base sa As M mc ms Rt) : Met l lt_y lt_ws { frames := 8, cells := mc, slots := ms, locals := 140 } (tx_P D base sa M As) (fun _ => pm_Qc D kcl base mc ms Rt) mc ms (fun q => base ≤ q) := by
  refine va_MetW (cc := method_3_code) (maxL := 4) (ret := some .int) (hh := lt_h) (by decide) rfl ?_
  intro p e s m args below meth c s₁ B hml hv
  obtain ⟨rfl, hbs, hP, hZ, hSW⟩ := hv
  have hx := B.exec
  have hb := B.bytes
  have hr := B.returns
  have hts := atoms_spec (ws := lt_ws) B.pre
  have ht : ∀ w ∈ pw_T, w.before As.toArray s = true := fun w h => hts w (List.mem_cons_of_mem _ h)
  have hown : s.vm.findClass "RoutingFieldLaw" = some m.cls := findClass_of_methodNamed B.named
  have hlocks := B.notSynchronized
  rcases hT with hT | hT
  · obtain ⟨hlen, h⟩ := hT
    have C0 : pm_ok D kcl base (kZ sa) p l e (headSpec lt_ws { frames := 8, cells := mc, slots := ms, locals := 140 }).room s m As.toArray below meth c "RoutingFieldLaw" method_3_code (kX_La_textAt base sa) :=
      ⟨hx, hb, hown, hbs, pm_look_all kD_La_textAt, kf_ok (init := false) ht hZ kF_La_ok (fun h => by cases h), km_ok ht kM_La_ok, kci_ok ht kI_La_ok, kli_ok ht kJ_La_ok, kar_ok ht hZ kA_La_ok,
      pm_look_all (List.forall_mem_cons.mpr ⟨pm_cokV hbs hZ ⟨hx, hb, hml, hown, hts⟩ (kW_Rf_textAt l D base sa) (fun mc ms => cwV 1 hts (pw_gV (pw_in 1904 (w := .methodLink "RoutingFieldLaw" 7 ⟨"RoutingField", "textAt", "(I)I"⟩) (by decide +kernel) rfl) ki_Rf_textAt ks_Rf_textAt kn_Rf ko_Rf_textAt) rfl rfl rfl (by decide +kernel) ⟨Nat.le_of_ble_eq_true rfl, Nat.le_of_ble_eq_true rfl⟩) (ci := 11) rfl, fun _ h => absurd h List.not_mem_nil⟩),
      hZ, kst_ok ht hZ (kS_La_ok sa), knar_ok ht, ktx_ok (kE_La_ok sa)⟩
    have hl2 := lv_entry As (n := 4) hlen
    rw [lg_entry_eq]
    refine h _ (pm_sound (Q := MQ below (fun _ => pm_Qc D kcl base mc ms Rt) As.toArray s mc ms (fun q => base ≤ q)) (mc := mc) (ms := ms) C0 (Nat.le_refl _) (Nat.le_refl _) ?_) s.heap [] _ 0 0 hP va_S.rf hl2 (by omega) (by omega)
    intro ins v st pc M H locs ls cells slots kc ks hdg hcase hRt hP hS hc hs
    refine pm_W_sz (fun z0 z1 z2 z3 => ?_)
    have hq : ∀ t : State, t.heap = H → s.WarmedH t.vm → pm_Qc D kcl base mc ms Rt s (.returned v) t := fun t ht hW => ⟨v, M, kc, ks, rfl, hRt, by rw [ht]; exact hP.moved hW.alike, ⟨by rw [ht]; exact hS.1, fun q h1 h2 => by rw [ht]; exact hS.2.1 q h1 h2⟩, by rw [ht]; omega, by rw [ht]; omega, by rw [ht]; exact z3⟩
    refine W.widen (k := mc) (n := ms) (by omega) (by omega) ?_
    rcases hcase with ⟨x, ty, rfl, rfl, rfl, g1, g2⟩ | ⟨x, rfl, rfl, rfl, g1⟩ | ⟨q, ty, rfl, rfl, rfl, g1, g2⟩ | ⟨rfl, rfl, rfl, g1⟩
    · exact W.zret hx hb (hr.trans g1) g2 hq hS.2.2 hdg
    · cases g1
    · cases g1; cases g2
    · cases g1
  · obtain ⟨x, o, tx, i, n, fs, gs, rfl, hMx, hf1, hMt, hg1, hi, hmc, hms, hRt⟩ := hT
    have hl2 := lv_entry ([.ref x, .int i, .ref o] : List Value) (n := 4) (Nat.le_of_ble_eq_true rfl)
    rw [lg_entry_eq]
    generalize (lg_sl ([.ref x, .int i, .ref o] : List Value) ++ List.replicate (4 - (lg_sl ([.ref x, .int i, .ref o] : List Value)).length) Slot.unset).toArray = ls at hl2 ⊢
    refine lv_aload_n hx hb (show decode method_3_code 0 = .ok (.aload_n 2, 1) by decide +kernel) rfl (lv_at hl2 2 rfl) ?_
    refine lv_iconst hx hb (show decode method_3_code 1 = .ok (.iconst 0, 1) by decide +kernel) rfl ?_
    refine lv_aload_n hx hb (show decode method_3_code 2 = .ok (.aload_n 0, 1) by decide +kernel) rfl (lv_at hl2 0 rfl) ?_
    refine lv_iload_n hx hb (show decode method_3_code 3 = .ok (.iload_n 1, 1) by decide +kernel) rfl (lv_at hl2 1 rfl) ?_
    have hMet := tx_thr l hl D base sa (mc := mc) (ms := ms) hMx hf1 hMt hg1 hi hmc hms
    obtain ⟨tys, hK, hor⟩ := hP.ob hMx
    obtain ⟨cellB, hcB, hoB, hclB⟩ := pm_recv hK hor (q := (kR_Rf, kT_Rf, 20)) rfl
    have hws : ∀ w ∈ tx_ws, ∀ (a' : Array Value) (U : State), s.WarmedH U.vm → w.before a' U = true := by
      intro w hw a' U hW
      rcases List.mem_cons.mp hw with rfl | hw
      · exact word_at hW (good_of_word (pw_good _ ko_Rf_textAt)) (ht _ ko_Rf_textAt)
      · exact word_at hW (good_of_word (pw_good w hw)) (ht w hw)
    have hlen : ∀ sig, parseMethodDescriptor tx_y.desc = some sig → ([.int i] : List Value).length = sig.parameters.length := by
      intro sig h
      have h2 : parseMethodDescriptor tx_y.desc = some ⟨[.int], some .int⟩ := by decide +kernel
      cases h2.symm.trans h
      rfl
    intro T hT X
    have hinst : (Cond.instanceMethod tx_y).before ([.ref x, .int i, .ref o] : List Value).toArray s = true := ht _ ki_Rf_textAt
    obtain ⟨mk, methM, hnamed, hmethM, hstM, habM⟩ := Cond.instanceMethod_spec hinst
    obtain ⟨methM', cM, hmethM', -, -, -, -, -, -, hsigM⟩ := Cond.code_spec hnamed (ht _ ko_Rf_textAt)
    cases hmethM.symm.trans hmethM'
    obtain ⟨c2, r2, m2, q1, q2, q3, q4, kP, hkP, hkPi⟩ := Cond.selects_spec (ht _ ks_Rf_textAt)
    have hy : tx_y.cls ≠ "java/lang/invoke/MethodHandle" ∧ tx_y.cls ≠ "java/lang/invoke/VarHandle" := by decide +kernel
    cases hclB.symm.trans q1
    cases (State.methodFound?_of_named hnamed hy).symm.trans q2
    cases hnamed.symm.trans q3
    have hselP : selectMethod e.platform s.vm cellB.cls mk = .method mk := by rw [Launch.admits_selectMethod X.admits]; exact q4
    obtain ⟨vm₁, X₁, hstep₁⟩ := X.invokevirtual hx hown (ht _ (pw_in 1904 (w := .methodLink "RoutingFieldLaw" 7 tx_y) (by decide +kernel) rfl)) hnamed hmethM hstM hkP hkPi hy (a := x) (cell := cellB) (by rw [hT]; exact hcB)
      (fun z h => by rw [h] at hoB; cases hoB) hselP hmethM habM hkP hkPi (g := F0 m 4 ls [.int i, .ref x, .int 0, .ref o]) rfl (argsL := [.int i]) (rest := [.int 0, .ref o]) (hlen _ hsigM) rfl (by rw [hb]; exact (show decode method_3_code 4 = .ok (.invokevirtual 7, 3) by decide +kernel))
    have hK2 : BackT l (headSpec lt_ws { frames := 8, cells := mc, slots := ms, locals := 140 }).room p e below s ([.ref x, .int i, .ref o] : List Value).toArray tx_y 3 8 (fun A a => A.cells + mc ≤ mc ∧ A.slots + ms ≤ ms ∧ tx_P D base sa M [.ref x, .int i] a A.U) (fun A a v B => ∃ (t : State) (L : List Loc) (ce : Cell), B.U.heap = t.heap ∧ B.U.vm = t.vm ∧ L = [] ∧ t.heap[v]? = some ce ∧ ce.vm.isStatics = false ∧ A.U.vm.findClass nsN = some ce.cls ∧ (∀ r, r < A.U.heap.size → t.heap[r]? = A.U.heap[r]?) ∧ B.locs = A.locs ++ L ∧ B.cells = A.cells + 1 ∧ B.slots = A.slots + 6) := by
      refine BackT.of_free (S := headSpec tx_ws { frames := 7, cells := mc, slots := ms, locals := 110 }) (bytes := prog_1_method_16_code) (maxL := 2) (ret := some .int) (E := fun a st o t L k n => L = [] ∧ k = 1 ∧ n = 6) hMet (by show 7 + 1 ≤ 8; decide) (by show 8 + (2 + 11) + 110 ≤ 140; decide) ?_ ?_ (fun _ _ _ _ _ _ _ _ _ => trivial) ?_ ?_
      · intro m meth c A a X hp
        exact ⟨atoms_intro fun w hw => hws w hw _ _ X.warmed, hws _ List.mem_cons_self _ _ X.warmed, word_at X.warmed (good_of_word (pw_good _ kn_Rf)) (ht _ kn_Rf), hp.1, hp.2.1⟩
      · intro m meth c A a g mk X hp
        obtain ⟨rfl, u1, u2, u3, u4⟩ := hp.2.2
        exact ⟨rfl, u1, pm_P.moved (u := A.U) (U := A.U.calling g mk _) (Vm.Alike.refl A.U.vm) u2, pm_Z.called u3 rfl rfl, u4.kept (fun _ _ => rfl) (Vm.Alike.refl _)⟩
      · intro a st o t hq
        obtain ⟨q, ce, rfl, r1, r2, r3, hF⟩ := hq
        exact ⟨[], 1, 6, hF, rfl, rfl, rfl⟩
      · intro m meth c A a g mk v t L k n X hp hq hF hE
        obtain ⟨rfl, rfl, rfl⟩ := hE
        obtain ⟨q, ce, e1, r1, r2, r3, hF2⟩ := hq
        cases e1
        refine ⟨t, [], ce, rfl, rfl, rfl, r1, r2, r3, fun r hr => ?_, rfl, rfl, rfl⟩
        have hcell : (A.U.calling g mk a).heap[r]? = some (A.U.heap[r]) := Array.getElem?_eq_getElem hr
        have h9 := State.sameButNew.old_cell hF2.2.2 hcell
        have h9 : t.heap[r]? = some (A.U.heap[r]) := h9
        rw [h9, Array.getElem?_eq_getElem hr]
    have hTh : (T.setVm vm₁).heap = s.heap := hT
    obtain ⟨v, B2, X', hpost, hsteps⟩ := hK2 m meth c ⟨T.setVm vm₁, [], 0, 0⟩ { F0 m 4 ls [.int i, .ref x, .int 0, .ref o] with stack := [.int 0, .ref o] } (.invokevirtual 7) mk ([.ref x, .int i] : List Value).toArray X₁ rfl (hl2.1.trans hml.symm) (by rw [hb]; exact (show decode method_3_code 4 = .ok (.invokevirtual 7, 3) by decide +kernel)) (by show 2 * 0 + 2 ≤ 8; decide) (X₁.named hnamed) ⟨by show 0 + mc ≤ mc; omega, by show 0 + ms ≤ ms; omega, rfl, by rw [hTh]; exact hbs, by rw [hTh]; exact hP.moved X₁.warmed.alike, hZ.warm (va_S.rf (A := fun q => base ≤ q)) hTh X₁.warmed, hSW.kept (fun a _ => by rw [hTh]) X₁.warmed.alike⟩
    obtain ⟨t, L, ce, e1, e2, rfl, r1, r2, r3, r4, e3, e4, e5⟩ := hpost
    have r4 : ∀ r, r < s.heap.size → t.heap[r]? = s.heap[r]? := fun r hr => by
      have := r4 r (by rw [hTh]; exact hr)
      rw [hTh] at this
      exact this
    have hcome : Steps p.tables e below (T.setTop (F0 m 4 ls [.int i, .ref x, .int 0, .ref o])) ((B2.U.setTop { F0 m 4 ls [.int i, .ref x, .int 0, .ref o] with stack := [.int 0, .ref o] }).pushFrame (.throwing v)) := hstep₁ _ (fun acts => by rw [doInvoke_state]; exact hsteps)
    obtain ⟨m9, meth9, c9, n1, n2, n3, n4, n5, n6, -⟩ := Cond.codeWith_spec (args := ([.ref x, .int i, .ref o] : List Value).toArray) (first := s) (o := none) (s := s) (idx := []) (hts _ List.mem_cons_self)
    cases Option.some.inj (B.named.symm.trans n1)
    cases Option.some.inj (X.method.symm.trans n2)
    cases Option.some.inj (X.code.symm.trans n3)
    have hex : c.exceptionTable.toList = [⟨0, 9, 12, 13⟩] := by
      generalize c.exceptionTable.toList = tl at n6
      cases tl with
      | nil => cases n6
      | cons y r =>
        cases r with
        | nil =>
          obtain ⟨y1, y2, y3, y4⟩ := y
          simp [lt_h] at n6
          obtain ⟨rfl, rfl, rfl, rfl⟩ := n6
          rfl
        | cons z r => simp [lt_h] at n6
    have hcT : s.vm.findClass nsN = some ce.cls := by
      have h9 : (T.setVm vm₁).vm.findClass nsN = some ce.cls := r3
      rw [X₁.warmed.alike.findClass] at h9
      exact h9
    have hfit : s.vm.assignable ce.cls ce.cls = true := by
      obtain ⟨c0, t0, f1, f2, f3⟩ := Cond.castable_spec (hSW.use ([.ref x, .int i, .ref o] : List Value).toArray (.castable nsN nsN) (by simp [tSC]))
      cases Option.some.inj (hcT.symm.trans f1)
      cases Option.some.inj (hcT.symm.trans f2)
      exact f3
    obtain ⟨vm', XV, st⟩ := X'.thenCaughtLink v rfl hcome hown [] ⟨0, 9, 12, 13⟩ [] hex (fun y hy => by cases hy) (by rfl) (by decide) (ht _ (pw_in 1903 (w := .classLink "RoutingFieldLaw" 13 nsN) (by decide +kernel) rfl)) hcT (by rw [e1]; exact r1) r2 hfit
    have K : W p l e (headSpec lt_ws { frames := 8, cells := mc, slots := ms, locals := 140 }).room s m ([.ref x, .int i, .ref o] : List Value).toArray below meth c t.heap [] 1 6 (MQ below (fun _ => pm_Qc D kcl base mc ms Rt) ([.ref x, .int i, .ref o] : List Value).toArray s mc ms (fun q => base ≤ q)) (F0 m 12 ls [.ref v]) := by
      refine lv_astore_n hx hb (show decode method_3_code 12 = .ok (.astore_n 3, 1) by decide +kernel) rfl hl2 (by decide) rfl (fun ls' hl' => ?_)
      refine lv_iconst hx hb (show decode method_3_code 13 = .ok (.iconst 1, 1) by decide +kernel) rfl ?_
      refine pm_W_sz (fun z0 z1 z2 z3 => ?_)
      have hq : ∀ t' : State, t'.heap = t.heap → s.WarmedH t'.vm → pm_Qc D kcl base mc ms Rt s (.returned (some (.int 1))) t' := fun t' ht' hW' => ⟨some (.int 1), M, mc - 1, ms - 6, rfl, hRt, by rw [ht']; exact (hP.grown hbs r4).moved hW'.alike, ⟨by rw [ht']; exact z0, fun q h1 h2 => by rw [ht']; exact r4 q h1⟩, by rw [ht']; omega, by rw [ht']; omega, by rw [ht']; exact z3⟩
      refine W.widen (k := mc) (n := ms) hmc hms ?_
      exact W.zret hx hb hr rfl hq (fun q h => by cases h) (show decode method_3_code 14 = .ok (.ireturn, 1) by decide +kernel)
    have XV2 : Stand p l e (headSpec lt_ws { frames := 8, cells := mc, slots := ms, locals := 140 }).room s m ([.ref x, .int i, .ref o] : List Value).toArray below meth c (B2.U.setVm vm') [] 1 6 := by
      have h9 := XV
      rw [e3, e4, e5] at h9
      exact h9
    obtain ⟨t2, a1, b1⟩ := K (B2.U.setVm vm') e1 XV2
    exact ⟨t2, st.trans a1, b1⟩
end LtMet
