section Mets
variable {l : Launch} {D : va_G} {cl : List vw_C} {base : Nat} {Z : pmZ}
/-- a body's contract out of its walk over pictures -/
abbrev pm_Met (l : Launch) (D : va_G) (cl : List vw_C) (base : Nat) (Z : pmZ) (y : MethodName) (ws : List Cond) (fr lo : Nat) (T : pmT) : Prop := ∀ (As : List Value) (M : pmM) (mc ms : Nat) (Rt : pmR), T As M mc ms Rt → Met l y ws { frames := fr, cells := mc, slots := ms, locals := lo } (va_Pc As (fun U => base ≤ U.heap.size ∧ pm_P D cl base M U U.heap ∧ pm_Z base Z U U.heap)) (fun _ => pm_Qc D cl base mc ms Rt) mc ms (fun q => base ≤ q)
set_option maxHeartbeats 4000000 in
theorem pm_met {y : MethodName} {ws ws' : List Cond} {cc : ByteArray} {ret : Option FieldType} {fr lo : Nat} {X : pmX} (hy : plainName y.cls = true) (hw : ws = Cond.code y cc X.nL ret :: ws') (hX : X.ret = ret)
    (hok : ∀ (mc ms : Nat) (p : Program) (e : Env) (s : State) (m : MethodId) (args : Array Value) (below : List Frame) (meth : Method) (c : Code), p.tables.exec = Jvm.exec → c.code = cc → c.maxLocals = X.nL → s.vm.findClass y.cls = some m.cls → meth.name = y.name → (∀ w ∈ ws, w.before args s = true) → base ≤ s.heap.size → pm_Z base Z s s.heap → pm_ok D cl base Z p l e { frames := fr, cells := mc, slots := ms, locals := lo } s m args below meth c y.cls cc X) :
    pm_Met l D cl base Z y ws fr lo (pm_mt cl base X) := by
  intro As M mc ms Rt hT
  obtain ⟨hlen, h⟩ := hT
  refine Met.ofW (cc := cc) (maxL := X.nL) (ret := ret) hy hw ?_
  intro p e s m args below meth c s₁ B hml hv
  obtain ⟨rfl, hbs, hP, hZ⟩ := hv
  have hx := B.exec
  have hb := B.bytes
  have hr := B.returns
  have hts := atoms_spec (ws := ws) B.pre
  have hown : s.vm.findClass y.cls = some m.cls := findClass_of_methodNamed B.named
  have hlocks := B.notSynchronized
  have hnm : meth.name = y.name := (name_of_methodNamed B.named B.method).1
  have C0 := hok mc ms p e s m As.toArray below meth c hx hb hml hown hnm hts hbs hZ
  have hl := lv_entry As (n := X.nL) hlen
  rw [lg_entry_eq]
  refine h _ (pm_sound (Q := MQ below (fun _ => pm_Qc D cl base mc ms Rt) As.toArray s mc ms (fun q => base ≤ q)) (mc := mc) (ms := ms) C0 (Nat.le_refl _) (Nat.le_refl _) ?_) s.heap [] _ 0 0 hP va_S.rf hl (by omega) (by omega)
  intro ins v st pc M H locs ls cells slots kc ks hdg hcase hRt hP hS hc hs
  refine pm_W_sz (fun z0 z1 z2 z3 => ?_)
  have hq : ∀ t : State, t.heap = H → s.WarmedH t.vm → pm_Qc D cl base mc ms Rt s (.returned v) t := fun t ht hW => ⟨v, M, kc, ks, rfl, hRt, by rw [ht]; exact hP.moved hW.alike, ⟨by rw [ht]; exact hS.1, fun q h1 h2 => by rw [ht]; exact hS.2.1 q h1 h2⟩, by rw [ht]; omega, by rw [ht]; omega, by rw [ht]; exact z3⟩
  refine W.widen (k := mc) (n := ms) (by omega) (by omega) ?_
  rcases hcase with ⟨x, ty, rfl, rfl, rfl, g1, g2⟩ | ⟨x, rfl, rfl, rfl, g1⟩ | ⟨q, ty, rfl, rfl, rfl, g1, g2⟩ | ⟨rfl, rfl, rfl, g1⟩
  · exact W.zret hx hb (hr.trans (hX ▸ g1)) g2 hq hS.2.2 hdg
  · exact W.lret hx hb (hr.trans (hX ▸ g1)) hq hS.2.2 hdg
  · exact W.aret hx hb (hr.trans (hX ▸ g1)) (by cases ty <;> first | exact Or.inl ⟨_, rfl⟩ | exact Or.inr ⟨_, rfl⟩ | cases g2) (by cases q <;> first | exact Or.inl rfl | exact Or.inr ⟨_, rfl⟩) hq hS.2.2 hdg
  · exact W.vret hx hb (hr.trans (hX ▸ g1)) hq hS.2.2 hdg
end Mets
section Calls2
variable {p : Program} {l : Launch} {e : Env} {R : Room} {s : State} {m : MethodId} {args : Array Value} {below : List Frame} {meth : Method} {c : Code} {cc : ByteArray} {D : va_G} {cl : List vw_C} {base : Nat} {Z : pmZ} {own : String} {Ts ws : List Cond} {y : MethodName} {bytes : ByteArray} {maxL nL fr lo n i : Nat} {ret : Option FieldType} {T : pmT}
theorem pm_pre {As : List Value} {M : pmM} {H : Heap} {locs : List Loc} (hP : pm_P D cl base M s H) (hbs : base ≤ s.heap.size) (hZ : pm_Z base Z s s.heap) (hS : va_S (fun q => base ≤ q) s.heap H locs) : FrameBlind (va_Pc As (fun U => base ≤ U.heap.size ∧ pm_P D cl base M U U.heap ∧ pm_Z base Z U U.heap)) ∧ ∀ U : State, U.heap = H → s.WarmedH U.vm → va_Pc As (fun U => base ≤ U.heap.size ∧ pm_P D cl base M U U.heap ∧ pm_Z base Z U U.heap) As.toArray U := by
  refine ⟨fun a U g mk q => ?_, fun U hU hW => ⟨rfl, ?_, ?_, hZ.warm hS hU hW⟩⟩
  · obtain ⟨q0, q1, q2, q3⟩ := q
    exact ⟨q0, q1, pm_P.moved (u := U) (U := U.calling g mk a) (Vm.Alike.refl U.vm) q2, pm_Z.called q3 rfl rfl⟩
  · rw [hU]
    exact Nat.le_trans hbs hS.1
  · rw [hU]
    exact hP.moved hW.alike
theorem pm_cokV (hbs : base ≤ s.heap.size) (hZ : pm_Z base Z s s.heap) (S : CallFix p m c cc nL s args Ts own) {C : String} (hM : pm_Met l D cl base Z y ws fr lo T) (cw : ∀ mc ms, CallW R s args own C i y bytes maxL ret ws { frames := fr, cells := mc, slots := ms, locals := lo } mc ms n) {ci N : Nat} {F : u_T} (hc : cl[ci]? = some (C, F, N)) : pm_cok D cl base p l e R s m args below meth c nL cc i (0, n + 1, pm_rcv ci T) := by
  intro Q pc ls As rest M kc ks cells slots Rt H locs hdg hn hw hls hk1 hk2 hP hS hT kk
  obtain ⟨b, As', fs, rfl, hMb, hT⟩ := hT
  obtain ⟨tys, hK, hP1⟩ := hP.ob hMb
  have hp := pm_pre (As := .ref b :: As') hP hbs hZ hS
  refine pm_call (Q := Q) ?_ hS kk
  rw [List.reverse_cons, List.append_assoc]
  exact va_runV (g := F0 m pc ls _) S (hM _ _ kc ks Rt hT) (cw kc ks) ⟨hp.1, va_recv hK hP1 hc (q0 := 0) rfl, hp.2⟩ rfl (by simpa using hn) hls rfl (lv_room hw) hdg ⟨hk1, hk2⟩
theorem pm_cokVN (hbs : base ≤ s.heap.size) (hZ : pm_Z base Z s s.heap) (S : CallFix p m c cc nL s args Ts own) {C host : String} (hM : pm_Met l D cl base Z y ws fr lo T) (cw : ∀ mc ms, va_CN R s args own i y host bytes maxL ret ws { frames := fr, cells := mc, slots := ms, locals := lo } mc ms n ∧ (Cond.instanceMethod y).before args s = true ∧ (Cond.selects C y y).before args s = true) {ci N : Nat} {F : u_T} (hc : cl[ci]? = some (C, F, N)) : pm_cok D cl base p l e R s m args below meth c nL cc i (0, n + 1, pm_rcv ci T) := by
  intro Q pc ls As rest M kc ks cells slots Rt H locs hdg hn hw hls hk1 hk2 hP hS hT kk
  obtain ⟨b, As', fs, rfl, hMb, hT⟩ := hT
  obtain ⟨tys, hK, hP1⟩ := hP.ob hMb
  have hp := pm_pre (As := .ref b :: As') hP hbs hZ hS
  refine pm_call (Q := Q) ?_ hS kk
  rw [List.reverse_cons, List.append_assoc]
  exact va_runVN (g := F0 m pc ls _) S (hM _ _ kc ks Rt hT) (cw kc ks) ⟨hp.1, va_recv hK hP1 hc (q0 := 0) rfl, hp.2⟩ rfl (by simpa using hn) hls rfl (lv_room hw) hdg ⟨hk1, hk2⟩
theorem pm_cokI (hbs : base ≤ s.heap.size) (hZ : pm_Z base Z s s.heap) (S : CallFix p m c cc nL s args Ts own) (hM : pm_Met l D cl base Z y ws fr lo T) (cw : ∀ mc ms, CallB R s args own i y bytes maxL none ws { frames := fr, cells := mc, slots := ms, locals := lo } mc ms n ∧ y.name = "<init>" ∧ (Cond.instanceMethod y).before args s = true) {ci : Nat} : pm_cok D cl base p l e R s m args below meth c nL cc i (1, n + 1, pm_rcv ci T) := by
  intro Q pc ls As rest M kc ks cells slots Rt H locs hdg hn hw hls hk1 hk2 hP hS hT kk
  obtain ⟨b, As', fs, rfl, hMb, hT⟩ := hT
  have hp := pm_pre (As := .ref b :: As') hP hbs hZ hS
  refine pm_call (Q := Q) ?_ hS kk
  rw [List.reverse_cons, List.append_assoc]
  exact va_runI (g := F0 m pc ls _) S (hM _ _ kc ks Rt hT) (cw kc ks) hp rfl (by simpa using hn) hls rfl (lv_room hw) hdg ⟨hk1, hk2⟩
theorem pm_cokIN (hbs : base ≤ s.heap.size) (hZ : pm_Z base Z s s.heap) (S : CallFix p m c cc nL s args Ts own) {host : String} (hM : pm_Met l D cl base Z y ws fr lo T) (cw : ∀ mc ms, va_CN R s args own i y host bytes maxL none ws { frames := fr, cells := mc, slots := ms, locals := lo } mc ms n ∧ y.name = "<init>" ∧ (Cond.instanceMethod y).before args s = true) {ci : Nat} : pm_cok D cl base p l e R s m args below meth c nL cc i (1, n + 1, pm_rcv ci T) := by
  intro Q pc ls As rest M kc ks cells slots Rt H locs hdg hn hw hls hk1 hk2 hP hS hT kk
  obtain ⟨b, As', fs, rfl, hMb, hT⟩ := hT
  have hp := pm_pre (As := .ref b :: As') hP hbs hZ hS
  refine pm_call (Q := Q) ?_ hS kk
  rw [List.reverse_cons, List.append_assoc]
  exact va_runIN (g := F0 m pc ls _) S (hM _ _ kc ks Rt hT) (cw kc ks) hp rfl (by simpa using hn) hls rfl (lv_room hw) hdg ⟨hk1, hk2⟩
theorem pm_cokS (hbs : base ≤ s.heap.size) (hZ : pm_Z base Z s s.heap) (S : CallFix p m c cc nL s args Ts own) (hM : pm_Met l D cl base Z y ws fr lo T) (cw : ∀ mc ms, CallB R s args own i y bytes maxL ret ws { frames := fr, cells := mc, slots := ms, locals := lo } mc ms n ∧ (Cond.static y).before args s = true) : pm_cok D cl base p l e R s m args below meth c nL cc i (2, n, T) := by
  intro Q pc ls As rest M kc ks cells slots Rt H locs hdg hn hw hls hk1 hk2 hP hS hT kk
  have hp := pm_pre (As := As) hP hbs hZ hS
  refine pm_call (Q := Q) ?_ hS kk
  exact va_runS (g := F0 m pc ls _) S (hM _ _ kc ks Rt hT) (cw kc ks) hp rfl hn hls rfl (lv_room hw) hdg ⟨hk1, hk2⟩
theorem pm_cokSN (hbs : base ≤ s.heap.size) (hZ : pm_Z base Z s s.heap) (S : CallFix p m c cc nL s args Ts own) {host : String} (hM : pm_Met l D cl base Z y ws fr lo T) (cw : ∀ mc ms, va_CN R s args own i y host bytes maxL ret ws { frames := fr, cells := mc, slots := ms, locals := lo } mc ms n ∧ (Cond.static y).before args s = true ∧ True) : pm_cok D cl base p l e R s m args below meth c nL cc i (2, n, T) := by
  intro Q pc ls As rest M kc ks cells slots Rt H locs hdg hn hw hls hk1 hk2 hP hS hT kk
  have hp := pm_pre (As := As) hP hbs hZ hS
  refine pm_call (Q := Q) ?_ hS kk
  exact va_runSN (g := F0 m pc ls _) S (hM _ _ kc ks Rt hT) (cw kc ks) hp rfl hn hls rfl (lv_room hw) hdg ⟨hk1, hk2⟩
theorem pm_cokO (hx : p.tables.exec = Jvm.exec) (hb : c.code = cc) (hml : c.maxLocals = nL) (hown : s.vm.findClass own = some m.cls) (hlink : (Cond.methodLink own i Lib.objectInit).before args s = true) (hinst : (Cond.instanceMethod Lib.objectInit).before args s = true) (hcode : (Cond.code Lib.objectInit ⟨#[0xb1]⟩ 1 none).before args s = true) (hf : 1 ≤ R.frames) (hlo : 20 ≤ R.locals) : pm_cok D cl base p l e R s m args below meth c nL cc i (1, 1, pm_oi) := by
  intro Q pc ls As rest M kc ks cells slots Rt H locs hdg hn hw hls hk1 hk2 hP hS hT kk
  obtain ⟨b, rfl, hT⟩ := hT
  have hr : 2 * (F0 m pc ls (.ref b :: rest)).monitorRoom + (rest.map fun v => v.category).sum ≤ 8 := lv_room hw
  exact W.objInit hx hb hown hlink hinst hcode (g := F0 m pc ls (.ref b :: rest)) rfl (by rw [hml]; exact hls) rfl hdg hf (by omega) (kk none M kc ks cells slots H locs hT hP hS (Nat.le_refl _) (Nat.le_refl _))
theorem pm_cokA (hbs : base ≤ s.heap.size) (hx : p.tables.exec = Jvm.exec) (hb : c.code = cc) (hml : c.maxLocals = nL) (hown : s.vm.findClass own = some m.cls) (hlink : (Cond.methodLink own i arraycopyName).before args s = true) (hnat : (Cond.native arraycopyName).before args s = true) (hstat : (Cond.static arraycopyName).before args s = true) (hini : (Cond.initialized "java/lang/System").before args s = true) (hf : 1 ≤ R.frames) (hlo : 26 ≤ R.locals) : pm_cok D cl base p l e R s m args below meth c nL cc i (2, 5, pm_acp base) := by
  intro Q pc ls As rest M kc ks cells slots Rt H locs hdg hn hw hls hk1 hk2 hP hS hT kk
  obtain ⟨a, b, sp, dp, n, ty, n0, n1, f, g, rfl, hMa, hMb, hprim, hba, hbb, h1, h2, h3, h4, h5, h6, hT⟩ := hT
  obtain ⟨ws, tys, k1, t1, c1, hK, hPw, hD, hk1', ht1, hq⟩ := hP.at hMb hbb
  rcases hq a _ hMa with ⟨-, k0, v0, hk0, hv0⟩ | ⟨z, -⟩
  · cases v0 with
    | inr o => exact hv0.elim
    | inl y =>
      obtain ⟨c0, y⟩ := y
      obtain ⟨hxy, t0, ht0⟩ := hv0
      have hxy : (n0, .inl f) = y := hxy
      subst hxy
      refine va_copyi hx hb (hml.trans hls.symm) hown hlink hnat hstat hini hK hPw hD hS k0 k1 t0 t1 hk0 hk1' ht0 ht1 hprim h1 h2 h3 h4 h5 h6 hf ?_ hdg (fun H1 locs1 hP1 hD1 hS1 => ?_)
      · have e : nativeFrameWords "java/lang/System" "arraycopy" 5 = 7 := by decide
        have hw' : (rest.map fun v => v.category).sum ≤ 8 := hw
        rw [e]
        exact Nat.le_trans (Nat.add_le_add_right hw' 18) hlo
      · exact kk none _ kc ks cells slots H1 locs1 hT (pm_P.set hK hq hk1' hbb (pm_rel_a ht1) hD1 hP1 (pm_low hbs hS hS1)) hS1 (Nat.le_refl _) (Nat.le_refl _)
  · omega
theorem pm_cokMx (hx : p.tables.exec = Jvm.exec) (hb : c.code = cc) (hml : c.maxLocals = nL) (hown : s.vm.findClass own = some m.cls) (hlink : (Cond.methodLink own i Lib.Math.max.name).before args s = true) (hstat : (Cond.static Lib.Math.max.name).before args s = true) (hini : (Cond.initialized "java/lang/Math").before args s = true) (hcode : (Cond.code Lib.Math.max.name Lib.Math.max.code 2 (some .int)).before args s = true) (hf : 1 ≤ R.frames) (hlo : 21 ≤ R.locals) : pm_cok D cl base p l e R s m args below meth c nL cc i (2, 2, pm_mx) := by
  intro Q pc ls As rest M kc ks cells slots Rt H locs hdg hn hw hls hk1 hk2 hP hS hT kk
  obtain ⟨x, y, rfl, hT⟩ := hT
  have hw' : (rest.map fun v => v.category).sum ≤ 8 := hw
  exact va_mmax hx hb (hml.trans hls.symm) hown hlink hstat hini hcode hf (Nat.le_trans (Nat.add_le_add_right hw' 13) hlo) (by omega) (by omega) hdg (kk _ M kc ks cells slots H locs hT hP hS (Nat.le_refl _) (Nat.le_refl _))
theorem pm_cokMn (hx : p.tables.exec = Jvm.exec) (hb : c.code = cc) (hml : c.maxLocals = nL) (hown : s.vm.findClass own = some m.cls) (hlink : (Cond.methodLink own i Lib.Math.min.name).before args s = true) (hstat : (Cond.static Lib.Math.min.name).before args s = true) (hini : (Cond.initialized "java/lang/Math").before args s = true) (hcode : (Cond.code Lib.Math.min.name Lib.Math.min.code 2 (some .int)).before args s = true) (hf : 1 ≤ R.frames) (hlo : 21 ≤ R.locals) : pm_cok D cl base p l e R s m args below meth c nL cc i (2, 2, pm_mn) := by
  intro Q pc ls As rest M kc ks cells slots Rt H locs hdg hn hw hls hk1 hk2 hP hS hT kk
  obtain ⟨x, y, rfl, hT⟩ := hT
  have hw' : (rest.map fun v => v.category).sum ≤ 8 := hw
  exact va_mmin hx hb (hml.trans hls.symm) hown hlink hstat hini hcode hf (Nat.le_trans (Nat.add_le_add_right hw' 13) hlo) (by omega) (by omega) hdg (kk _ M kc ks cells slots H locs hT hP hS (Nat.le_refl _) (Nat.le_refl _))
end Calls2
