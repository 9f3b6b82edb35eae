section Mets
variable {l : Launch} {D : va_G} {cl : List vw_C} {base : Nat} {Z : pmZ}
/-- a body's contract out of its walk over pictures -/
abbrev pm_Met (l : Launch) (D : va_G) (cl : List vw_C) (base : Nat) (Z : pmZ) (y : MethodName) (ws : List Cond) (fr lo : Nat) (T : pmT) : Prop := ∀ (As : List Value) (M : pmM) (mc ms : Nat) (Rt : pmR), T As M mc ms Rt → Met l y ws { frames := fr, cells := mc, slots := ms, locals := lo } (va_Pc As (fun U => base ≤ U.heap.size ∧ pm_P D cl base M U U.heap ∧ pm_Z base Z U U.heap)) (fun _ => pm_Qc D cl base mc ms Rt) mc ms (fun q => base ≤ q)
set_option maxHeartbeats 4000000 in
theorem pm_met {y : MethodName} {ws ws' : List Cond} {cc : ByteArray} {ret : Option FieldType} {fr lo : Nat} {X : pmX} (hy : plainName y.cls = true) (hw : ws = Cond.code y cc X.nL ret :: ws') (hX : X.ret = ret)
    (hok : ∀ (mc ms : Nat) (p : Program) (e : Env) (s : State) (m : MethodId) (args : Array Value) (below : List Frame) (meth : Method) (c : Code), p.tables.exec = Jvm.exec → c.code = cc → c.maxLocals = X.nL → s.vm.findClass y.cls = some m.cls → meth.name = y.name → (∀ w ∈ ws, w.before args s = true) → base ≤ s.heap.size → pm_Z base Z s s.heap → pm_ok D cl base Z p l e { frames := fr, cells := mc, slots := ms, locals := lo } s m args below meth c y.cls cc X) :
    pm_Met l D cl base Z y ws fr lo (pm_mt cl base X) := by
  intro As M mc ms Rt hT
  obtain ⟨hlen, h⟩ := hT
  refine Met.ofW (cc := cc) (maxL := X.nL) (ret := ret) hy hw ?_
  intro p e s m args below meth c s₁ B hml hv
  obtain ⟨rfl, hbs, hP, hZ⟩ := hv
  have hx := B.exec
  have hb := B.bytes
  have hr := B.returns
  have hts := atoms_spec (ws := ws) B.pre
  have hown : s.vm.findClass y.cls = some m.cls := findClass_of_methodNamed B.named
  have hlocks := B.notSynchronized
  have hnm : meth.name = y.name := (name_of_methodNamed B.named B.method).1
  have C0 := hok mc ms p e s m As.toArray below meth c hx hb hml hown hnm hts hbs hZ
  have hl := lv_entry As (n := X.nL) hlen
  rw [lg_entry_eq]
  refine h _ (pm_sound (Q := MQ below (fun _ => pm_Qc D cl base mc ms Rt) As.toArray s mc ms (fun q => base ≤ q)) (mc := mc) (ms := ms) C0 (Nat.le_refl _) (Nat.le_refl _) ?_) s.heap [] _ 0 0 hP va_S.rf hl (by omega) (by omega)
  intro ins v st pc M H locs ls cells slots kc ks hdg hcase hRt hP hS hc hs
  refine pm_W_sz (fun z0 z1 z2 z3 => ?_)
  have hq : ∀ t : State, t.heap = H → s.WarmedH t.vm → pm_Qc D cl base mc ms Rt s (.returned v) t := fun t ht hW => ⟨v, M, kc, ks, rfl, hRt, by rw [ht]; exact hP.moved hW.alike, ⟨by rw [ht]; exact hS.1, fun q h1 h2 => by rw [ht]; exact hS.2.1 q h1 h2⟩, by rw [ht]; omega, by rw [ht]; omega, by rw [ht]; exact z3⟩
  refine W.widen (k := mc) (n := ms) (by omega) (by omega) ?_
  rcases hcase with ⟨x, ty, rfl, rfl, rfl, g1, g2⟩ | ⟨x, rfl, rfl, rfl, g1⟩ | ⟨q, ty, rfl, rfl, rfl, g1, g2⟩ | ⟨rfl, rfl, rfl, g1⟩
  · exact W.zret hx hb (hr.trans (hX ▸ g1)) g2 hq hS.2.2 hdg
  · exact W.lret hx hb (hr.trans (hX ▸ g1)) hq hS.2.2 hdg
  · exact W.aret hx hb (hr.trans (hX ▸ g1)) (by cases ty <;> first | exact Or.inl ⟨_, rfl⟩ | exact Or.inr ⟨_, rfl⟩ | cases g2) (by cases q <;> first | exact Or.inl rfl | exact Or.inr ⟨_, rfl⟩) hq hS.2.2 hdg
  · exact W.vret hx hb (hr.trans (hX ▸ g1)) hq hS.2.2 hdg
end Mets
section Calls2
variable {p : Program} {l : Launch} {e : Env} {R : Room} {s : State} {m : MethodId} {args : Array Value} {below : List Frame} {meth : Method} {c : Code} {cc : ByteArray} {D : va_G} {cl : List vw_C} {base : Nat} {Z : pmZ} {own : String} {Ts ws : List Cond} {y : MethodName} {bytes : ByteArray} {maxL nL fr lo n i : Nat} {ret : Option FieldType} {T : pmT}
theorem pm_pre {As : List Value} {M : pmM} {H : Heap} {locs : List Loc} (hP : pm_P D cl base M s H) (hbs : base ≤ s.heap.size) (hZ : pm_Z base Z s s.heap) (hS : va_S (fun q => base ≤ q) s.heap H locs) : FrameBlind (va_Pc As (fun U => base ≤ U.heap.size ∧ pm_P D cl base M U U.heap ∧ pm_Z base Z U U.heap)) ∧ ∀ U : State, U.heap = H → s.WarmedH U.vm → va_Pc As (fun U => base ≤ U.heap.size ∧ pm_P D cl base M U U.heap ∧ pm_Z base Z U U.heap) As.toArray U := by
  refine ⟨fun a U g mk q => ?_, fun U hU hW => ⟨rfl, ?_, ?_, hZ.warm hS hU hW⟩⟩
  · obtain ⟨q0, q1, q2, q3⟩ := q
    exact ⟨q0, q1, pm_P.moved (u := U) (U := U.calling g mk a) (Vm.Alike.refl U.vm) q2, pm_Z.called q3 rfl rfl⟩
  · rw [hU]
    exact Nat.le_trans hbs hS.1
  · rw [hU]
    exact hP.moved hW.alike
theorem pm_cokV (hbs : base ≤ s.heap.size) (hZ : pm_Z base Z s s.heap) (S : CallFix p m c cc nL s args Ts own) {C : String} (hM : pm_Met l D cl base Z y ws fr lo T) (cw : ∀ mc ms, CallW R s args own C i y bytes maxL ret ws { frames := fr, cells := mc, slots := ms, locals := lo } mc ms n) {ci N : Nat} {F : u_T} (hc : cl[ci]? = some (C, F, N)) : pm_cok D cl base p l e R s m args below meth c nL cc i (0, n + 1, pm_rcv ci T) := by
  intro Q pc ls As rest M kc ks cells slots Rt H locs hdg hn hw hls hk1 hk2 hP hS hT kk
  obtain ⟨b, As', fs, rfl, hMb, hT⟩ := hT
  obtain ⟨tys, hK, hP1⟩ := hP.ob hMb
  have hp := pm_pre (As := .ref b :: As') hP hbs hZ hS
  refine pm_call (Q := Q) ?_ hS kk
  rw [List.reverse_cons, List.append_assoc]
  exact va_runV (g := F0 m pc ls _) S (hM _ _ kc ks Rt hT) (cw kc ks) ⟨hp.1, pm_recv hK hP1 hc, hp.2⟩ rfl (by simpa using hn) hls rfl (lv_room hw) hdg ⟨hk1, hk2⟩
theorem pm_cokVN (hbs : base ≤ s.heap.size) (hZ : pm_Z base Z s s.heap) (S : CallFix p m c cc nL s args Ts own) {C host : String} (hM : pm_Met l D cl base Z y ws fr lo T) (cw : ∀ mc ms, va_CN R s args own i y host bytes maxL ret ws { frames := fr, cells := mc, slots := ms, locals := lo } mc ms n ∧ (Cond.instanceMethod y).before args s = true ∧ (Cond.selects C y y).before args s = true) {ci N : Nat} {F : u_T} (hc : cl[ci]? = some (C, F, N)) : pm_cok D cl base p l e R s m args below meth c nL cc i (0, n + 1, pm_rcv ci T) := by
  intro Q pc ls As rest M kc ks cells slots Rt H locs hdg hn hw hls hk1 hk2 hP hS hT kk
  obtain ⟨b, As', fs, rfl, hMb, hT⟩ := hT
  obtain ⟨tys, hK, hP1⟩ := hP.ob hMb
  have hp := pm_pre (As := .ref b :: As') hP hbs hZ hS
  refine pm_call (Q := Q) ?_ hS kk
  rw [List.reverse_cons, List.append_assoc]
  exact va_runVN (g := F0 m pc ls _) S (hM _ _ kc ks Rt hT) (cw kc ks) ⟨hp.1, pm_recv hK hP1 hc, hp.2⟩ rfl (by simpa using hn) hls rfl (lv_room hw) hdg ⟨hk1, hk2⟩
theorem pm_cokI (hbs : base ≤ s.heap.size) (hZ : pm_Z base Z s s.heap) (S : CallFix p m c cc nL s args Ts own) (hM : pm_Met l D cl base Z y ws fr lo T) (cw : ∀ mc ms, CallB R s args own i y bytes maxL none ws { frames := fr, cells := mc, slots := ms, locals := lo } mc ms n ∧ y.name = "<init>" ∧ (Cond.instanceMethod y).before args s = true) {ci : Nat} : pm_cok D cl base p l e R s m args below meth c nL cc i (1, n + 1, pm_rcv ci T) := by
  intro Q pc ls As rest M kc ks cells slots Rt H locs hdg hn hw hls hk1 hk2 hP hS hT kk
  obtain ⟨b, As', fs, rfl, hMb, hT⟩ := hT
  have hp := pm_pre (As := .ref b :: As') hP hbs hZ hS
  refine pm_call (Q := Q) ?_ hS kk
  rw [List.reverse_cons, List.append_assoc]
  exact va_runI (g := F0 m pc ls _) S (hM _ _ kc ks Rt hT) (cw kc ks) hp rfl (by simpa using hn) hls rfl (lv_room hw) hdg ⟨hk1, hk2⟩
theorem pm_cokIN (hbs : base ≤ s.heap.size) (hZ : pm_Z base Z s s.heap) (S : CallFix p m c cc nL s args Ts own) {host : String} (hM : pm_Met l D cl base Z y ws fr lo T) (cw : ∀ mc ms, va_CN R s args own i y host bytes maxL none ws { frames := fr, cells := mc, slots := ms, locals := lo } mc ms n ∧ y.name = "<init>" ∧ (Cond.instanceMethod y).before args s = true) {ci : Nat} : pm_cok D cl base p l e R s m args below meth c nL cc i (1, n + 1, pm_rcv ci T) := by
  intro Q pc ls As rest M kc ks cells slots Rt H locs hdg hn hw hls hk1 hk2 hP hS hT kk
  obtain ⟨b, As', fs, rfl, hMb, hT⟩ := hT
  have hp := pm_pre (As := .ref b :: As') hP hbs hZ hS
  refine pm_call (Q := Q) ?_ hS kk
  rw [List.reverse_cons, List.append_assoc]
  exact va_runIN (g := F0 m pc ls _) S (hM _ _ kc ks Rt hT) (cw kc ks) hp rfl (by simpa using hn) hls rfl (lv_room hw) hdg ⟨hk1, hk2⟩
theorem lv_room12 {pc : Nat} {ls : Array Slot} {rest st : List Value} (h : (st.map fun v => v.category).sum ≤ 12) : 2 * (F0 m pc ls rest).monitorRoom + (st.map fun v => v.category).sum ≤ 12 := by
  show 2 * 0 + _ ≤ 12
  omega
theorem va_runS12 {bytes cc : ByteArray} {maxL nL mc ms n index : Nat} {ret : Option FieldType} {ws : List Cond} {rm : Room} {Pc : Array Value → State → Prop} {Qc : Array Value → State → Outcome → State → Prop} {free : Addr → Prop} {Ts : List Cond} {own : String} {y : MethodName} {As rest : List Value} {g : JFrame} {H : Heap} {locs : List Loc} {cells slots : Nat} (S : CallFix p m c cc nL s args Ts own) (hM : Met l y ws rm Pc Qc mc ms free) (cw : CallB R s args own index y bytes maxL ret ws rm mc ms n ∧ (Cond.static y).before args s = true) (h12 : 12 + (maxL + 11) + rm.locals ≤ R.locals) (hp : PreS s H Pc As)
    (hg : g.method = m) (hn : As.length = n) (hsize : g.locals.size = nL) (hstack : g.stack = As.reverse ++ rest) (hW : 2 * g.monitorRoom + (rest.map fun v => v.category).sum ≤ 12) (hdg : decode cc g.pc = .ok (.invokestatic index, 3)) (hf : cells + mc ≤ R.cells ∧ slots + ms ≤ R.slots) :
    va_Run p l e R s m args below meth c H locs cells slots mc ms g rest (Qc As.toArray) (free) := by
  obtain ⟨⟨hrc, hrs, hfr, -, hws, hcw, hcode, hini, hy, hlen, hl⟩, hstt⟩ := cw
  have hK : Back l R p e below s args y 3 12 (PreOf R mc ms Pc) (PostOf Qc mc ms free) := back_of (bytes := bytes) (maxL := maxL) (ret := ret) hM hp.1 hrc hrs hfr h12 hws hcw (fun a' U hW => word_at hW (Or.inl (by first | rfl | simp [Cond.onTables, Cond.keeps, Cond.steady])) hini)
  obtain ⟨hx, hb, hml, ho, -⟩ := S
  intro T hT X
  obtain ⟨v, vm₁, ⟨U', l2, c2, s2⟩, hW₁, X', ⟨g', mk, t, L, e1, e2, hq, h1, hL, h2, h3⟩, st⟩ := callS X hx (bytes := bytes) (maxL := maxL) (ret := ret) ho hl hstt hini hcode hy hK hg (hsize.trans hml.symm) (argsL := As) (rest := rest) (fun sig h => hn.trans (hlen sig h)) hstack hW (by rw [hb]; exact hdg)
    (fun vm₁ hW₁ => ⟨hf.1, hf.2, hp.2 (T.setVm vm₁) hT hW₁⟩)
  dsimp only [Pt.U, Pt.locs, Pt.cells, Pt.slots] at X' e1 e2 h1 h2 h3 st
  subst h1; subst h2; subst h3
  exact ⟨v, (T.setVm vm₁).calling g' mk As.toArray, t, U', L, hT, X', hL, e1, e2, hq, st⟩
theorem va_runSN12 {y : MethodName} {bytes cc : ByteArray} {maxL nL mc ms n index : Nat} {ret : Option FieldType} {ws : List Cond} {rm : Room} {Pc : Array Value → State → Prop} {Qc : Array Value → State → Outcome → State → Prop} {free : Addr → Prop} {Ts : List Cond} {own host : String} {As rest : List Value} {g : JFrame} {H : Heap} {locs : List Loc} {cells slots : Nat}
    (S : CallFix p m c cc nL s args Ts own) (hM : Met l y ws rm Pc Qc mc ms free) (cw : va_CN R s args own index y host bytes maxL ret ws rm mc ms n ∧ (Cond.static y).before args s = true ∧ True) (h12 : 12 + (maxL + 11) + rm.locals ≤ R.locals) (hp : PreS s H Pc As)
    (hg : g.method = m) (hn : As.length = n) (hsize : g.locals.size = nL) (hstack : g.stack = As.reverse ++ rest) (hW : 2 * g.monitorRoom + (rest.map fun v => v.category).sum ≤ 12) (hdg : decode cc g.pc = .ok (.invokestatic index, 3)) (hf : cells + mc ≤ R.cells ∧ slots + ms ≤ R.slots) :
    va_Run p l e R s m args below meth c H locs cells slots mc ms g rest (Qc As.toArray) (free) := by
  obtain ⟨⟨⟨hrc, hrs, hfr, -, hws, hcw⟩, hcode, hini, hy, hlen, hl⟩, hx1, hx2⟩ := cw
  have hK : Back l R p e below s args y 3 12 (PreOf R mc ms Pc) (PostOf Qc mc ms free) := back_of (bytes := bytes) (maxL := maxL) (ret := ret) hM hp.1 hrc hrs hfr h12 hws hcw (fun a' U hW => word_at hW (Or.inl (by first | rfl | simp [Cond.onTables, Cond.keeps, Cond.steady])) hini)
  obtain ⟨hx, hb, hml, ho, -⟩ := S
  have hPc := hp.2
  intro T hT X
  obtain ⟨v, vm₁, ⟨U', l2, c2, s2⟩, hW₁, X', ⟨g', mk, t, L, e1, e2, hq, h1, hL, h2, h3⟩, st⟩ := va_callSN X hx (bytes := bytes) (maxL := maxL) (ret := ret) ho hl hx1 hini hcode hy hK hg (hsize.trans hml.symm) (argsL := As) (rest := rest) (fun sig h => hn.trans (hlen sig h)) hstack hW (by rw [hb]; exact hdg)
    (fun vm₁ hW₁ => ⟨hf.1, hf.2, hPc (T.setVm vm₁) hT hW₁⟩)
  dsimp only [Pt.U, Pt.locs, Pt.cells, Pt.slots] at X' e1 e2 h1 h2 h3 st
  subst h1; subst h2; subst h3
  exact ⟨v, (T.setVm vm₁).calling g' mk As.toArray, t, U', L, hT, X', hL, e1, e2, hq, st⟩
theorem pm_cokS (hbs : base ≤ s.heap.size) (hZ : pm_Z base Z s s.heap) (S : CallFix p m c cc nL s args Ts own) (hM : pm_Met l D cl base Z y ws fr lo T) (cw : ∀ mc ms, CallB R s args own i y bytes maxL ret ws { frames := fr, cells := mc, slots := ms, locals := lo } mc ms n ∧ (Cond.static y).before args s = true) (h12 : 12 + (maxL + 11) + lo ≤ R.locals) : pm_cok D cl base p l e R s m args below meth c nL cc i (2, n, T) := by
  intro Q pc ls As rest M kc ks cells slots Rt H locs hdg hn hw hls hk1 hk2 hP hS hT kk
  have hp := pm_pre (As := As) hP hbs hZ hS
  refine pm_call (Q := Q) ?_ hS kk
  exact va_runS12 (g := F0 m pc ls _) S (hM _ _ kc ks Rt hT) (cw kc ks) h12 hp rfl hn hls rfl (lv_room12 hw) hdg ⟨hk1, hk2⟩
theorem pm_cokSN (hbs : base ≤ s.heap.size) (hZ : pm_Z base Z s s.heap) (S : CallFix p m c cc nL s args Ts own) {host : String} (hM : pm_Met l D cl base Z y ws fr lo T) (cw : ∀ mc ms, va_CN R s args own i y host bytes maxL ret ws { frames := fr, cells := mc, slots := ms, locals := lo } mc ms n ∧ (Cond.static y).before args s = true ∧ True) (h12 : 12 + (maxL + 11) + lo ≤ R.locals) : pm_cok D cl base p l e R s m args below meth c nL cc i (2, n, T) := by
  intro Q pc ls As rest M kc ks cells slots Rt H locs hdg hn hw hls hk1 hk2 hP hS hT kk
  have hp := pm_pre (As := As) hP hbs hZ hS
  refine pm_call (Q := Q) ?_ hS kk
  exact va_runSN12 (g := F0 m pc ls _) S (hM _ _ kc ks Rt hT) (cw kc ks) h12 hp rfl hn hls rfl (lv_room12 hw) hdg ⟨hk1, hk2⟩
theorem pm_cokO (hx : p.tables.exec = Jvm.exec) (hb : c.code = cc) (hml : c.maxLocals = nL) (hown : s.vm.findClass own = some m.cls) (hlink : (Cond.methodLink own i Lib.objectInit).before args s = true) (hinst : (Cond.instanceMethod Lib.objectInit).before args s = true) (hcode : (Cond.code Lib.objectInit ⟨#[0xb1]⟩ 1 none).before args s = true) (hf : 1 ≤ R.frames) (hlo : 20 ≤ R.locals) : pm_cok D cl base p l e R s m args below meth c nL cc i (1, 1, pm_oi) := by
  intro Q pc ls As rest M kc ks cells slots Rt H locs hdg hn hw hls hk1 hk2 hP hS hT kk
  obtain ⟨b, rfl, hT⟩ := hT
  have hr : 2 * (F0 m pc ls (.ref b :: rest)).monitorRoom + (rest.map fun v => v.category).sum ≤ 8 := lv_room hw
  exact W.objInit hx hb hown hlink hinst hcode (g := F0 m pc ls (.ref b :: rest)) rfl (by rw [hml]; exact hls) rfl hdg hf (by omega) (kk none M kc ks cells slots H locs hT hP hS (Nat.le_refl _) (Nat.le_refl _))
theorem pm_cokA (hbs : base ≤ s.heap.size) (hx : p.tables.exec = Jvm.exec) (hb : c.code = cc) (hml : c.maxLocals = nL) (hown : s.vm.findClass own = some m.cls) (hlink : (Cond.methodLink own i arraycopyName).before args s = true) (hnat : (Cond.native arraycopyName).before args s = true) (hstat : (Cond.static arraycopyName).before args s = true) (hini : (Cond.initialized "java/lang/System").before args s = true) (hf : 1 ≤ R.frames) (hlo : 30 ≤ R.locals) : pm_cok D cl base p l e R s m args below meth c nL cc i (2, 5, pm_acp base) := by
  intro Q pc ls As rest M kc ks cells slots Rt H locs hdg hn hw hls hk1 hk2 hP hS hT kk
  obtain ⟨a, b, sp, dp, n, ty, n0, n1, f, g, rfl, hMa, hMb, hprim, hba, hbb, h1, h2, h3, h4, h5, h6, hT⟩ := hT
  obtain ⟨ws, tys, k1, t1, c1, hK, hPw, hD, hk1', ht1, hq⟩ := hP.at hMb hbb
  rcases hq a _ hMa with ⟨-, k0, v0, hk0, hv0⟩ | ⟨z, -⟩
  · cases v0 with
    | inr o => exact hv0.elim
    | inl y =>
      obtain ⟨c0, y⟩ := y
      obtain ⟨hxy, t0, ht0⟩ := hv0
      have hxy : (n0, .inl f) = y := hxy
      subst hxy
      refine va_copyi hx hb (hml.trans hls.symm) hown hlink hnat hstat hini hK hPw hD hS k0 k1 t0 t1 hk0 hk1' ht0 ht1 hprim h1 h2 h3 h4 h5 h6 hf ?_ hdg (fun H1 locs1 hP1 hD1 hS1 => ?_)
      · have e : nativeFrameWords "java/lang/System" "arraycopy" 5 = 7 := by decide
        have hw' : (rest.map fun v => v.category).sum ≤ 12 := hw
        rw [e]
        exact Nat.le_trans (Nat.add_le_add_right hw' 18) hlo
      · exact kk none _ kc ks cells slots H1 locs1 hT (pm_P.set hK hq hk1' hbb (pm_rel_a ht1) hD1 hP1 (pm_low hbs hS hS1)) hS1 (Nat.le_refl _) (Nat.le_refl _)
  · omega
theorem pm_cokMx (hx : p.tables.exec = Jvm.exec) (hb : c.code = cc) (hml : c.maxLocals = nL) (hown : s.vm.findClass own = some m.cls) (hlink : (Cond.methodLink own i Lib.Math.max.name).before args s = true) (hstat : (Cond.static Lib.Math.max.name).before args s = true) (hini : (Cond.initialized "java/lang/Math").before args s = true) (hcode : (Cond.code Lib.Math.max.name Lib.Math.max.code 2 (some .int)).before args s = true) (hf : 1 ≤ R.frames) (hlo : 25 ≤ R.locals) : pm_cok D cl base p l e R s m args below meth c nL cc i (2, 2, pm_mx) := by
  intro Q pc ls As rest M kc ks cells slots Rt H locs hdg hn hw hls hk1 hk2 hP hS hT kk
  obtain ⟨x, y, rfl, hT⟩ := hT
  have hw' : (rest.map fun v => v.category).sum ≤ 12 := hw
  exact va_mmax hx hb (hml.trans hls.symm) hown hlink hstat hini hcode hf (Nat.le_trans (Nat.add_le_add_right hw' 13) hlo) (by omega) (by omega) hdg (kk _ M kc ks cells slots H locs hT hP hS (Nat.le_refl _) (Nat.le_refl _))
theorem pm_cokMn (hx : p.tables.exec = Jvm.exec) (hb : c.code = cc) (hml : c.maxLocals = nL) (hown : s.vm.findClass own = some m.cls) (hlink : (Cond.methodLink own i Lib.Math.min.name).before args s = true) (hstat : (Cond.static Lib.Math.min.name).before args s = true) (hini : (Cond.initialized "java/lang/Math").before args s = true) (hcode : (Cond.code Lib.Math.min.name Lib.Math.min.code 2 (some .int)).before args s = true) (hf : 1 ≤ R.frames) (hlo : 25 ≤ R.locals) : pm_cok D cl base p l e R s m args below meth c nL cc i (2, 2, pm_mn) := by
  intro Q pc ls As rest M kc ks cells slots Rt H locs hdg hn hw hls hk1 hk2 hP hS hT kk
  obtain ⟨x, y, rfl, hT⟩ := hT
  have hw' : (rest.map fun v => v.category).sum ≤ 12 := hw
  exact va_mmin hx hb (hml.trans hls.symm) hown hlink hstat hini hcode hf (Nat.le_trans (Nat.add_le_add_right hw' 13) hlo) (by omega) (by omega) hdg (kk _ M kc ks cells slots H locs hT hP hS (Nat.le_refl _) (Nat.le_refl _))
end Calls2
section Multi
theorem pm_outer (c : ClassId) (N h0 : Nat) : ∀ i, Jvm.Free.Multi.outerC c N h0 i = arrV c N (fun j => va_rf (if j < i then some (h0 + 1 + j) else none))
  | 0 => by
    show ({ cls := c, slots := Array.replicate N .null, vm := .none } : Cell) = _
    rw [arrV_new]
    congr 1
  | i + 1 => by
    show (Jvm.Free.Multi.outerC c N h0 i).setSlot i (.ref (h0 + 1 + i)) = _
    rw [pm_outer c N h0 i, arrV_store]
    congr 1
    funext j
    by_cases h : j = i
    · subst h
      simp [updV, va_rf]
    · have e : (j < i + 1) ↔ (j < i) := by omega
      simp [updV, h, e]
theorem pm_rg {α : Type} {g : Nat → α} {n i : Nat} {x : α} (h : ((List.range n).map g)[i]? = some x) : i < n ∧ x = g i := by
  have hl := (List.getElem?_eq_some_iff.mp h).1
  rw [List.length_map, List.length_range] at hl
  rw [List.getElem?_map, List.getElem?_range hl] at h
  exact ⟨hl, (Option.some.inj h).symm⟩
variable {p : Program} {l : Launch} {e : Env} {R : Room} {s : State} {m : MethodId} {args : Array Value} {below : List Frame} {meth : Method} {c : Code} {cc : ByteArray} {D : va_G} {cl : List vw_C} {base : Nat} {own : String} {nL i : Nat}
def pm_mulW (h : Nat) (cA comp : ClassId) (n k : Nat) : Nat → Nat × va_E := fun j => (h + j, if j = 0 then .inl (cA, n, .inr (.inr (.inr (.inr fun j => if j < n then some (h + 1 + j) else none)))) else .inl (comp, k, .inl fun _ => 0))
theorem pm_P_mul {M : pmM} {H H1 : Heap} {ws : va_W} {tys : List (ClassId × FieldType)} (hK : va_K D cl tys s) (hPw : va_P D cl ws H) (hD : va_D (fun q => base ≤ q) ws) (hq : ∀ (a : Nat) (e : pmE), M a = some e → (base ≤ a ∧ ∃ (k : Nat) (v : va_E), ws[k]? = some (a, v) ∧ pm_rel tys e v) ∨ (a < base ∧ pm_ro D cl s H a e)) {cA comp : ClassId} {ty : FieldType} {n k : Nat} (hold : ∀ a, a < H.size → H1[a]? = H[a]?) (hout : H1[H.size]? = some (vp_cell cA (n, .inr (.inr (.inr (.inr fun j => if j < n then some (H.size + 1 + j) else none)))))) (hin : ∀ j, j < n → H1[H.size + 1 + j]? = some (vp_cell comp (k, .inl fun _ => 0))) (hA1 : ArrOfT s cA (.array ty)) (hR1 : va_RA s cA (.array ty)) (hA2 : ArrOfT s comp ty) (hR2 : va_RA s comp ty) (hbH : base ≤ H.size) : (∀ j, j ≤ n → M (H.size + j) = none) ∧ pm_P D cl base (pm_mul M H.size ty n k) s H1 := by
  have hlt : ∀ (k : Nat) (x : Nat × va_E), ws[k]? = some x → x.1 < H.size := fun k x hx => (hPw k x hx).lt
  have hfree : ∀ j, j ≤ n → M (H.size + j) = none := by
    intro j hj
    cases hM : M (H.size + j) with
    | none => rfl
    | some e =>
      exfalso
      rcases hq _ e hM with ⟨-, k, v, h1, -⟩ | ⟨h1, -⟩
      · have := hlt k _ h1
        have : H.size + j < H.size := this
        omega
      · omega
  refine ⟨hfree, ws ++ (List.range (n + 1)).map (pm_mulW H.size cA comp n k), tys ++ [(cA, .array ty), (comp, ty)], ⟨hK.1, fun t x hx => ?_⟩, va_P.app (hPw.kept fun k x hx => hold _ (hlt k x hx)) (fun t x hx => ?_), va_D.app hD ⟨fun a b x y hx hy hxy => ?_, fun a x hx => ?_⟩ (fun a b x y hx hy hxy => ?_), fun b e he => ?_⟩
  · by_cases hl : t < tys.length
    · rw [List.getElem?_append_left hl] at hx
      exact hK.2 t x hx
    · rw [List.getElem?_append_right (by omega)] at hx
      have hz : t - tys.length < 2 := (List.getElem?_eq_some_iff.mp hx).1
      have h01 : t - tys.length = 0 ∨ t - tys.length = 1 := by omega
      rcases h01 with h0 | h0
      · rw [h0] at hx
        cases hx
        exact ⟨hA1, hR1⟩
      · rw [h0] at hx
        cases hx
        exact ⟨hA2, hR2⟩
  · obtain ⟨hl, rfl⟩ := pm_rg hx
    cases t with
    | zero => exact hout
    | succ j =>
      have h2 := hin j (by omega)
      rw [show H.size + 1 + j = H.size + (j + 1) by omega] at h2
      exact h2
  · obtain ⟨h1, rfl⟩ := pm_rg hx
    obtain ⟨h2, rfl⟩ := pm_rg hy
    have : H.size + a = H.size + b := hxy
    omega
  · obtain ⟨h1, rfl⟩ := pm_rg hx
    show base ≤ H.size + a
    omega
  · obtain ⟨h2, rfl⟩ := pm_rg hy
    have h1 := hlt a x hx
    have : x.1 = H.size + b := hxy
    omega
  · unfold pm_mul at he
    by_cases hb : H.size ≤ b ∧ b ≤ H.size + n
    · rw [if_pos hb] at he
      have hgl : (ws ++ (List.range (n + 1)).map (pm_mulW H.size cA comp n k))[ws.length + (b - H.size)]? = some (pm_mulW H.size cA comp n k (b - H.size)) := by
        rw [List.getElem?_append_right (by omega), show ws.length + (b - H.size) - ws.length = b - H.size by omega, List.getElem?_map, List.getElem?_range (by omega)]
        rfl
      have hbb : H.size + (b - H.size) = b := by omega
      unfold pm_mulW at hgl
      rw [hbb] at hgl
      refine Or.inl ⟨by omega, ws.length + (b - H.size), _, hgl, ?_⟩
      by_cases hb0 : b = H.size
      · rw [if_pos hb0] at he
        cases he
        rw [if_pos (by omega)]
        exact pm_rel_a (t := tys.length) (by simp)
      · rw [if_neg hb0] at he
        cases he
        rw [if_neg (by omega)]
        exact pm_rel_a (t := tys.length + 1) (by simp)
    · rw [if_neg hb] at he
      rcases hq b e he with ⟨h1, k2, v2, h2, h3⟩ | ⟨h1, h2⟩
      · exact Or.inl ⟨h1, k2, v2, by rw [List.getElem?_append_left (List.getElem?_eq_some_iff.mp h2).1]; exact h2, h3.app⟩
      · exact Or.inr ⟨h1, h2.kept (hold b (by omega))⟩
set_option maxHeartbeats 4000000 in
/-- an array of arrays, new -/
theorem pm_cokMu (hbs : base ≤ s.heap.size) (hx : p.tables.exec = Jvm.exec) (hb : c.code = cc) (hown : s.vm.findClass own = some m.cls) {ty : FieldType} (hlink : (Cond.classLink own i ("[" ++ (FieldType.array ty).toString)).before args s = true) (hover : (Cond.arrayOver (.array ty)).before args s = true) (harr : (Cond.arrayClass ty).before args s = true) (hcb : componentBytes ty ≤ 8) (hd0 : defaultValue ty = .int 0) (hdf : fits ty (.int 0) = true) (hts : (FieldType.array ty).toString = "[" ++ ty.toString) (hra : ∀ cA, s.vm.findClass ("[" ++ ty.toString) = some cA → va_RA s cA ty) : pm_cok D cl base p l e R s m args below meth c nL cc (100000 + i) (3, 2, pm_mna base ty) := by
  intro Q pc ls As rest M kc ks cells slots Rt H locs hdg hn hw hls hk1 hk2 hP hS hT kk
  obtain ⟨n, k, rfl, g0, g1, g2, g3, g4, g5, hT⟩ := hT
  have hdg' : decode c.code pc = .ok (.multianewarray i 2, 4) := by
    rw [hb]
    have e0 : pm_inv 3 (100000 + i) = .multianewarray i 2 := by
      show Instr.multianewarray (100000 + i - 100000) 2 = _
      rw [Nat.add_sub_cancel_left]
    rw [← e0]
    exact hdg
  have hmul : k.toNatClampNeg * componentBytes ty ≤ 4000 * 8 := Nat.mul_le_mul g3 hcb
  intro T hT0 X
  obtain ⟨vm₁, cA, comp, hW, hfA, hfC, hO, hI, X1, step⟩ := X.multianewarray2F hx hown hlink hover harr (g := F0 m pc ls (.int k :: .int n :: rest)) rfl hdg' rfl g0 g1 (by omega) (by omega) (by omega) (by rw [hd0]; exact hdf) (by rw [hd0]; rfl) (by omega) (by omega)
  obtain ⟨f1, f2, f3⟩ := Jvm.Free.Multi.fill_facts (T.setVm vm₁) cA comp n.toNatClampNeg k.toNatClampNeg (defaultValue ty) n.toNatClampNeg
  have hTh : (T.setVm vm₁).heap = H := hT0
  rw [hTh] at f1 f2
  have hold : ∀ a, a < H.size → (Jvm.Free.Multi.fill (T.setVm vm₁) cA comp n.toNatClampNeg k.toNatClampNeg (defaultValue ty) n.toNatClampNeg).heap[a]? = H[a]? := by
    intro a ha
    have h := Jvm.Free.Multi.fill_old (T.setVm vm₁) cA comp n.toNatClampNeg k.toNatClampNeg (defaultValue ty) (a := a) (by rw [hTh]; exact ha) n.toNatClampNeg
    rw [hTh] at h
    exact h
  have hinn : ∀ j, j < n.toNatClampNeg → (Jvm.Free.Multi.fill (T.setVm vm₁) cA comp n.toNatClampNeg k.toNatClampNeg (defaultValue ty) n.toNatClampNeg).heap[H.size + 1 + j]? = some (vp_cell comp (k.toNatClampNeg, .inl fun _ => 0)) := by
    intro j hj
    have h := Jvm.Free.Multi.fill_inner (T.setVm vm₁) cA comp n.toNatClampNeg k.toNatClampNeg (defaultValue ty) n.toNatClampNeg j hj
    rw [hTh, hd0] at h
    rw [hd0, h, vp_cell_i]
    show some ({ cls := comp, slots := Array.replicate k.toNatClampNeg (.int 0), vm := .none } : Cell) = _
    rw [arrV_new]
  rw [pm_outer] at f2
  obtain ⟨ws, tys, hK, hPw, hD, hq⟩ := hP
  have hA1 : ArrOfT s cA (.array ty) := fun N z => by
    obtain ⟨⟨-, k0, hk0, comp0, hkind⟩, -⟩ := hO 0 0 0
    exact ⟨fun k h => (by cases h), k0, hk0, comp0, hkind⟩
  have hA2 : ArrOfT s comp ty := fun N z => by
    obtain ⟨⟨-, k0, hk0, comp0, hkind⟩, -⟩ := hI 0 .null
    exact ⟨fun k h => (by cases h), k0, hk0, comp0, hkind⟩
  have hbH : base ≤ H.size := Nat.le_trans hbs hS.1
  obtain ⟨n1, hP2⟩ := pm_P_mul (n := n.toNatClampNeg) (k := k.toNatClampNeg) hK hPw hD hq hold f2 hinn hA1 hfA hA2 (hra comp (by rw [← hts]; exact hfC)) hbH
  have hS1 : va_S (fun q => base ≤ q) s.heap (Jvm.Free.Multi.fill (T.setVm vm₁) cA comp n.toNatClampNeg k.toNatClampNeg (defaultValue ty) n.toNatClampNeg).heap locs := ⟨by rw [f1]; exact Nat.le_trans hS.1 (by omega), fun q h1 h2 => (hold q (Nat.lt_of_lt_of_le h1 hS.1)).trans (hS.2.1 q h1 h2), hS.2.2⟩
  obtain ⟨t, a1, b1⟩ := kk (some (.ref H.size)) _ _ _ (cells + 1 + n.toNatClampNeg) (slots + n.toNatClampNeg + n.toNatClampNeg * k.toNatClampNeg) _ locs (hT H.size hbH n1) hP2 hS1 (by omega) (by omega) _ rfl X1
  have hst : (T.setVm vm₁).heap.size = H.size := by rw [hTh]
  refine ⟨t, step t ?_, b1⟩
  rw [hT0]
  exact a1
end Multi
