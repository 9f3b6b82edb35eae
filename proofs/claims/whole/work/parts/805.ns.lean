/-! The exception's own start, without stack traces. -/
section NsCtor
def nsN : String := "java/util/NoSuchElementException"
def nsU : List String := ["java/lang/RuntimeException", "java/lang/Exception"]
def nsA : List Cond := Bundle.ownAtomsX "RoutingField" 251 nsN 13 prog_24_method_4_code nsU
variable {p : Program} {l : Launch} {e : Env} {R : Room} {s : State} {m : MethodId} {args : Array Value} {below : List Frame} {meth : Method} {c : Code} {V : State} {cells slots : Nat}
set_option maxRecDepth 100000 in
set_option maxHeartbeats 4000000 in
theorem ns_ctor (X : Stand p l e R s m args below meth c V [] cells slots) (hx : p.tables.exec = Jvm.exec) (htr : e.platform.stackTraces = false) (hown : s.vm.findClass "RoutingField" = some m.cls) (h : ∀ w ∈ nsA, w.before args s = true)
    {a : Addr} {cX : ClassId} {kX : Class} (hfX : s.vm.findClass nsN = some cX) (hkX : s.vm.classes[cX]? = some kX) (hcell : V.heap[a]? = some (freshCell cX kX)) (hnew : s.heap.size ≤ a) {msg : Value} (hmsg : msg.isRef = true)
    {g : JFrame} (hg : g.method = m) (hsize : g.locals.size = c.maxLocals) (hlocked : g.locked = none) (hentered : g.entered = []) (hstack : g.stack = [msg, .ref a, .ref a]) (hd6 : decode c.code g.pc = .ok (.invokespecial 251, 3)) (hd9 : decode c.code (g.pc + 3) = .ok (.athrow, 1)) (hout : c.exceptionTable.toList = [])
    (hRf : 5 < R.frames) (hRl : 2 * g.monitorRoom + 82 ≤ R.locals) (hlocks : meth.locks = false) :
    ∃ U : State, Steps p.tables e below (V.setTop g) U ∧ U.status = .running ∧ Ended U below (.threw a) ∧ s.WarmedH U.vm ∧ s.sameButNew ({ U with vm := s.vm } : State) [] cells slots ∧ ∃ ce, U.heap[a]? = some ce ∧ ce.cls = cX ∧ ce.vm = .none := by
  have pl1 : e.platform.frameOwnsMonitors = true := by rw [X.admits.platform]
  have pl2 : e.platform.finalization = false := by rw [X.admits.platform]
  have pl3 : e.platform.magicAccessors = ({} : Platform).magicAccessors := by rw [X.admits.platform]
  have w : ∀ x, x ∈ nsA → x.holds args s none s [] = true := fun x hx => h x hx
  obtain ⟨T, Z0, L, -, Y⟩ := ThrowableC.of_atoms (args := args) pl1 pl2 pl3 (fun x hx => h x (by simp [nsA, Bundle.ownAtomsX, hx]))
  obtain ⟨Z, M, LZ, LM, hnZ⟩ := Init0T.ofS_atoms (args := args) pl3 L Y (fun x hx => h x (by simp [nsA, Bundle.ownAtomsX, hx]))
  obtain ⟨P1, Ps, hlen, L1, hL, hP1, hk1, hk2⟩ := Bundle.chainSX (args := args) pl3 hnZ (ix := 13) (rx := prog_24_method_4_code) (by decide +kernel) (by decide +kernel) (by decide +kernel) (by decide +kernel) nsU nsN (by decide +kernel) (by decide +kernel) (fun x hx => h x (by simp [nsA, Bundle.ownAtomsX, hx]))
  have hP1c : P1.m.cls = cX := Option.some.inj ((findClass_of_methodNamed hP1).symm.trans hfX)
  obtain ⟨c1, k1, hc1, hk1', hord, -, -, hn6⟩ := Cond.instantiable_spec (w (.instantiable nsN 6) (by simp [nsA, Bundle.ownAtomsX]))
  cases Option.some.inj (hc1.symm.trans hfX)
  cases Option.some.inj (hkX.symm.trans hk1')
  have sel : ∀ (y : MethodName) (q : MethodId), s.methodNamed? y = some q → y.cls ≠ "java/lang/invoke/MethodHandle" ∧ y.cls ≠ "java/lang/invoke/VarHandle" → Cond.selects nsN y y ∈ nsA → selectMethod e.platform s.vm cX q = .method q := by
    intro y q hq hy hin
    obtain ⟨c2, r2, m2, q1, q2, q3, q4, -⟩ := Cond.selects_spec (w _ hin)
    cases Option.some.inj (q1.symm.trans hfX)
    cases Option.some.inj (q2.symm.trans (State.methodFound?_of_named hq hy))
    cases Option.some.inj (q3.symm.trans hq)
    rw [Launch.admits_selectMethod X.admits]
    exact q4
  have s0 := sel Bundle.tFill0 _ Y.fill0 (by decide) (by simp [nsA, Bundle.ownAtomsX])
  have sF := sel Bundle.tFill _ Y.fill (by decide) (by simp [nsA, Bundle.ownAtomsX])
  obtain ⟨cS0, hcS0, hiss⟩ := Y.statics
  obtain ⟨u0, hu0⟩ := Cond.staticRefV Y.unassigned L.unassignedStatic L.statics hcS0 hiss (w (.isRef (.static Bundle.tN "UNASSIGNED_STACK" Bundle.steD)) (by simp [nsA, Bundle.ownAtomsX]))
  obtain ⟨sen, hsen⟩ := Cond.staticRefV Y.sentinel L.sentinelStatic L.statics hcS0 hiss (w (.isRef (.static Bundle.tN "SUPPRESSED_SENTINEL" Bundle.listD)) (by simp [nsA, Bundle.ownAtomsX]))
  obtain ⟨ci, i198, fB, b1, b2, b3, b4, -, b5, b6, b7⟩ := Cond.ownField (t := .object "java/lang/Object") Y.found L.cls (by decide +kernel) (w (.fieldLink Bundle.tN 198 Bundle.tN "backtrace" "Ljava/lang/Object;") (by simp [nsA, Bundle.ownAtomsX])) (w (.lays Bundle.tN Bundle.tN "backtrace" "Ljava/lang/Object;") (by simp [nsA, Bundle.ownAtomsX])) e.platform pl3
  have hcS : V.heap[T.aS]? = some cS0 := by
    obtain ⟨c', h1, h2, h3, h4⟩ := X.same.2.2.2.2.2 T.aS cS0 hcS0
    have h1 : V.heap[T.aS]? = some c' := h1
    have e1 : c'.slots = cS0.slots := Array.ext_getElem? fun i => h4 i (fun z => by cases z)
    rw [h1, h2, e1]
  have hkn : cS0.vm ≠ .unknown := fun hu => by rw [hu] at hiss; cases hiss
  have hne : T.aS ≠ a := Nat.ne_of_lt (Nat.lt_of_lt_of_le (Array.getElem?_eq_some_iff.mp hcS0).1 hnew)
  obtain ⟨iM, hfM⟩ := Y.msg
  obtain ⟨tC, dC, gC, nC⟩ := Cond.laysAt hfX hkX Y.cause (w (.lays nsN Bundle.tN "cause" "Ljava/lang/Throwable;") (by simp [nsA, Bundle.ownAtomsX]))
  obtain ⟨tS, dS, gS, nS⟩ := Cond.laysAt hfX hkX Y.stack (w (.lays nsN Bundle.tN "stackTrace" Bundle.steD) (by simp [nsA, Bundle.ownAtomsX]))
  obtain ⟨tP, dP, gP, nP⟩ := Cond.laysAt hfX hkX Y.supp (w (.lays nsN Bundle.tN "suppressedExceptions" Bundle.listD) (by simp [nsA, Bundle.ownAtomsX]))
  obtain ⟨tM, dM, gM, nM⟩ := Cond.laysAt hfX hkX hfM (w (.lays nsN Bundle.tN "detailMessage" "Ljava/lang/String;") (by simp [nsA, Bundle.ownAtomsX]))
  obtain ⟨tB, dB, gB, nB⟩ := Cond.laysAt hfX hkX b7 (w (.lays nsN Bundle.tN "backtrace" "Ljava/lang/Object;") (by simp [nsA, Bundle.ownAtomsX]))
  have bC := Cond.laysApart gB gC nB nC (by rw [b5, Y.causeName]; decide)
  have bS := Cond.laysApart gB gS nB nS (by rw [b5, Y.stackName]; decide)
  have bP := Cond.laysApart gB gP nB nP (by rw [b5, Y.suppName]; decide)
  have hskip : SkipFacts T e.platform s (fun u => u) u0 ((preparedCellV T.toThrowableT (freshCell cX kX) a u0 sen).withEntry V.cur) := by
    refine ⟨{ ci198 := ci, i198 := i198, fBack := fB }, ⟨b1, b2, b3, b4⟩, ?_, fun _ _ => rfl⟩
    have hdf := fresh_default (c := cX) tB
    rw [b6] at hdf
    simpa [preparedCellV, Cell.setSlot, Cell.withEntry, Array.getElem?_setIfInBounds, bC, bS, bP, bC.symm, bS.symm, bP.symm, defaultValue] using hdf
  obtain ⟨tm, mC, cC, kC, vm1, hnC, -, -, -, -, -, -, -, hW1, st1⟩ := Steps.initColdS (tb := p.tables) (e := e) (below := below) (s := s) (U := V) X.here hx X.warmed pl3 hown (t := Bundle.initS nsN) rfl rfl (by decide +kernel) (w (.methodLink "RoutingField" 251 (Bundle.initS nsN)) (by simp [nsA, Bundle.ownAtomsX])) (h (.instanceMethod (Bundle.initS nsN)) (by simp [nsA, Bundle.ownAtomsX, nsU, Bundle.chainSAtomsX, Bundle.passSAtoms])) (bytes := prog_24_method_4_code) (maxL := 2) (h (.code (Bundle.initS nsN) prog_24_method_4_code 2 none) (by simp [nsA, Bundle.ownAtomsX, nsU, Bundle.chainSAtomsX, Bundle.passSAtoms])) (f := g) hg (a := a) (msg := msg) (rest := [.ref a]) hstack hd6
  cases Option.some.inj (hnC.symm.trans hP1)
  have X1 := X.noted hW1
  obtain ⟨vm2, X2, st2⟩ := X1.ctorMessageOffV hx (g := { g with stack := [.ref a] }) hg hsize T L Z LZ M LM (P1 :: Ps)
    (fun P hP => by
      rcases List.mem_cons.mp hP with rfl | hP
      · exact L1
      · exact hL P hP) ⟨hk1, hk2⟩ (u0 := u0) (sen := sen) (self := a) hmsg (cell := freshCell cX kX) (cellS := cS0) hcell (fun _ => by simp) (by simp) rfl rfl s0 sF hcS hne hkn hu0 hsen
    (Takes.of_laid hkX hord tC (by rw [Y.causeType]; rfl)) (Takes.of_laid hkX hord tS (by rw [Y.stackType]; exact fits_refV_array _ u0)) (Takes.of_laid hkX hord tP (by rw [Y.suppType]; exact fits_refV_object _ sen)) (Takes.of_laid hkX hord tM (by rw [Y.msgType]; exact fits_refV_object _ ⟨msg, hmsg⟩)) Y.objLocals hskip htr [] hd6
    (by simp only [List.length_cons, hlen]; exact hRf) (by simp only [List.length_cons, hlen]; exact hRl)
  obtain ⟨hwk, hrun, hend, hWU, hsame⟩ := X2.athrowLeaves hx (g := { g with stack := [.ref a], pc := g.pc + 3 }) hg hlocked hentered (by rw [hout]; intro y hy; cases hy) (a := a) (rest := []) rfl hd9 hlocks
  have hlt : a < ((V.setVm vm1).setVm vm2).heap.size := (Array.getElem?_eq_some_iff.mp hcell).1
  have hU := heapAt_setCell_self (s := (V.setVm vm1).setVm vm2) (plainBareV T.toThrowableT (freshCell cX kX) a u0 sen msg) hlt
  refine ⟨_, st1 _ (fun acts => ?_), hrun, hend, hWU, hsame.weaken (fun y hy hlt' => ?_) (Nat.le_refl _) (Nat.le_refl _), _, hU, rfl, rfl⟩
  · rw [doInvoke_state]
    exact st2 _ hwk
  · exfalso
    have hb : y.base = a := by
      simp only [List.nil_append, List.mem_cons, List.not_mem_nil, or_false] at hy
      rcases hy with rfl | rfl | rfl | rfl | rfl <;> rfl
    rw [hb] at hlt'
    exact Nat.not_lt.mpr hnew hlt'
end NsCtor
