/-! THE MACHINE OF PICTURES: what a method's code does, said over a picture of the heap (an address: an array of a type, or an object of a kind by its number). 'pm_ins' is an instruction's weakest precondition; 'pm_sound' says that the machine itself does so. -/
abbrev pmE : Type := (FieldType × vp_A) ⊕ (Nat × List Value)
abbrev pmM : Type := Nat → Option pmE
abbrev pmL : Type := List (Nat × Value)
/-- what must hold behind a body: what it answers, the picture, how many cells and slots are left -/
abbrev pmR : Type := Option Value → pmM → Nat → Nat → Prop
/-- what a callee does: its arguments (the receiver first), the picture, how many cells and slots are left, what must hold behind it -/
abbrev pmT : Type := List Value → pmM → Nat → Nat → pmR → Prop
def pm_up (M : pmM) (a : Nat) (e : pmE) : pmM := fun b => if b = a then some e else M b
theorem pm_up_self (M : pmM) (a : Nat) (e : pmE) : pm_up M a e a = some e := if_pos rfl
theorem pm_up_ne (M : pmM) {a b : Nat} (e : pmE) (h : b ≠ a) : pm_up M a e b = M b := if_neg h
def pm_get : pmL → Nat → Option Value
  | [], _ => none
  | q :: r, i => if q.1 = i then some q.2 else pm_get r i
def pm_st1 (L : pmL) (i : Nat) (v : Value) : pmL := (i, v) :: L.filter (fun q => !(q.1 == i) && !(q.1 + 1 == i && q.2.category == 2))
def pm_st2 (L : pmL) (i : Nat) (v : Value) : pmL := (i, v) :: L.filter (fun q => !(q.1 == i) && (!(q.1 == i + 1) && !(q.1 + 1 == i && q.2.category == 2)))
def pm_cats (st : List Value) : Nat := (st.map fun v => v.category).sum
/-- a body's own words: code by place; a field's kind number, place, type, and whether it may be written here; an object's kind number and first fields; int, long constants; the name of an array's references; callees (how they are called, how many arguments with the receiver, what they do); statics; constant texts (their addresses); locals; the type that it returns -/
abbrev pmX : Type := (Nat → Option Instr) × (Nat → Option (Nat × Nat × FieldType × Bool)) × (Nat → Option (Nat × List Value)) × (Nat → Option Int32) × (Nat → Option Int64) × (Nat → Option String) × (Nat → Option (Nat × Nat × pmT)) × (Nat → Option Value) × (Nat → Option Nat) × Nat × Option FieldType
abbrev pmX.code (X : pmX) : Nat → Option Instr := X.1
abbrev pmX.fld (X : pmX) : Nat → Option (Nat × Nat × FieldType × Bool) := X.2.1
abbrev pmX.mk (X : pmX) : Nat → Option (Nat × List Value) := X.2.2.1
abbrev pmX.ci (X : pmX) : Nat → Option Int32 := X.2.2.2.1
abbrev pmX.cl (X : pmX) : Nat → Option Int64 := X.2.2.2.2.1
abbrev pmX.arr (X : pmX) : Nat → Option String := X.2.2.2.2.2.1
abbrev pmX.cal (X : pmX) : Nat → Option (Nat × Nat × pmT) := X.2.2.2.2.2.2.1
abbrev pmX.sta (X : pmX) : Nat → Option Value := X.2.2.2.2.2.2.2.1
abbrev pmX.str (X : pmX) : Nat → Option Nat := X.2.2.2.2.2.2.2.2.1
abbrev pmX.nL (X : pmX) : Nat := X.2.2.2.2.2.2.2.2.2.1
abbrev pmX.ret (X : pmX) : Option FieldType := X.2.2.2.2.2.2.2.2.2.2
-- stacks by shape
def ps_i (st : List Value) (k : Int32 → List Value → Prop) : Prop := match st with
  | .int x :: r => k x r
  | _ => False
def ps_l (st : List Value) (k : Int64 → List Value → Prop) : Prop := match st with
  | .long x :: r => k x r
  | _ => False
def ps_ii (st : List Value) (k : Int32 → Int32 → List Value → Prop) : Prop := match st with
  | .int y :: .int x :: r => k x y r
  | _ => False
def ps_ll (st : List Value) (k : Int64 → Int64 → List Value → Prop) : Prop := match st with
  | .long y :: .long x :: r => k x y r
  | _ => False
def ps_li (st : List Value) (k : Int64 → Int32 → List Value → Prop) : Prop := match st with
  | .int y :: .long x :: r => k x y r
  | _ => False
def ps_r (st : List Value) (k : Nat → List Value → Prop) : Prop := match st with
  | .ref a :: r => k a r
  | _ => False
def ps_q (st : List Value) (k : Option Nat → List Value → Prop) : Prop := match st with
  | .ref a :: r => k (some a) r
  | .null :: r => k none r
  | _ => False
def ps_v (st : List Value) (k : Value → List Value → Prop) : Prop := match st with
  | v :: r => k v r
  | _ => False
theorem ps_i_of {st : List Value} {k : Int32 → List Value → Prop} (h : ps_i st k) : ∃ x r, st = .int x :: r ∧ k x r := by
  unfold ps_i at h
  split at h
  · exact ⟨_, _, rfl, h⟩
  · exact h.elim
theorem ps_l_of {st : List Value} {k : Int64 → List Value → Prop} (h : ps_l st k) : ∃ x r, st = .long x :: r ∧ k x r := by
  unfold ps_l at h
  split at h
  · exact ⟨_, _, rfl, h⟩
  · exact h.elim
theorem ps_ii_of {st : List Value} {k : Int32 → Int32 → List Value → Prop} (h : ps_ii st k) : ∃ x y r, st = .int y :: .int x :: r ∧ k x y r := by
  unfold ps_ii at h
  split at h
  · exact ⟨_, _, _, rfl, h⟩
  · exact h.elim
theorem ps_ll_of {st : List Value} {k : Int64 → Int64 → List Value → Prop} (h : ps_ll st k) : ∃ x y r, st = .long y :: .long x :: r ∧ k x y r := by
  unfold ps_ll at h
  split at h
  · exact ⟨_, _, _, rfl, h⟩
  · exact h.elim
theorem ps_li_of {st : List Value} {k : Int64 → Int32 → List Value → Prop} (h : ps_li st k) : ∃ x y r, st = .int y :: .long x :: r ∧ k x y r := by
  unfold ps_li at h
  split at h
  · exact ⟨_, _, _, rfl, h⟩
  · exact h.elim
theorem ps_r_of {st : List Value} {k : Nat → List Value → Prop} (h : ps_r st k) : ∃ a r, st = .ref a :: r ∧ k a r := by
  unfold ps_r at h
  split at h
  · exact ⟨_, _, rfl, h⟩
  · exact h.elim
theorem ps_q_of {st : List Value} {k : Option Nat → List Value → Prop} (h : ps_q st k) : ∃ q r, st = va_rf q :: r ∧ k q r := by
  unfold ps_q at h
  split at h
  · exact ⟨some _, _, rfl, h⟩
  · exact ⟨none, _, rfl, h⟩
  · exact h.elim
theorem ps_v_of {st : List Value} {k : Value → List Value → Prop} (h : ps_v st k) : ∃ v r, st = v :: r ∧ k v r := by
  unfold ps_v at h
  split at h
  · exact ⟨_, _, rfl, h⟩
  · exact h.elim
def pm_tgt (pc : Nat) (off : Int) : Nat := ((pc : Int) + off).toNat
/-- the jump stays ahead of nothing: its target is a place -/
def pm_jok (pc : Nat) (off : Int) : Prop := 0 ≤ (pc : Int) + off
def pm_cmp (c : Jvm.ClassFile.Cond) (x y : Int32) : Prop := match c with
  | .eq => x = y
  | .ne => ¬ x = y
  | .lt => x < y
  | .ge => y ≤ x
  | .gt => y < x
  | .le => x ≤ y
def pm_old (L : pmL) (i : Nat) (k : Value → Prop) : Prop := match pm_get L i with
  | some v => k v
  | none => False
theorem pm_old_of {L : pmL} {i : Nat} {k : Value → Prop} (h : pm_old L i k) : ∃ v, pm_get L i = some v ∧ k v := by
  unfold pm_old at h
  split at h
  · exact ⟨_, by assumption, h⟩
  · exact h.elim
def pm_isI (v : Value) (k : Int32 → Prop) : Prop := match v with
  | .int x => k x
  | _ => False
def pm_isL (v : Value) (k : Int64 → Prop) : Prop := match v with
  | .long x => k x
  | _ => False
def pm_isQ (v : Value) (k : Option Nat → Prop) : Prop := match v with
  | .ref a => k (some a)
  | .null => k none
  | _ => False
theorem pm_isI_of {v : Value} {k : Int32 → Prop} (h : pm_isI v k) : ∃ x, v = .int x ∧ k x := by
  unfold pm_isI at h
  split at h
  · exact ⟨_, rfl, h⟩
  · exact h.elim
theorem pm_isL_of {v : Value} {k : Int64 → Prop} (h : pm_isL v k) : ∃ x, v = .long x ∧ k x := by
  unfold pm_isL at h
  split at h
  · exact ⟨_, rfl, h⟩
  · exact h.elim
theorem pm_isQ_of {v : Value} {k : Option Nat → Prop} (h : pm_isQ v k) : ∃ q, v = va_rf q ∧ k q := by
  unfold pm_isQ at h
  split at h
  · exact ⟨some _, rfl, h⟩
  · exact ⟨none, rfl, h⟩
  · exact h.elim
def pm_opt {α : Type} (o : Option α) (k : α → Prop) : Prop := match o with
  | some v => k v
  | none => False
theorem pm_opt_of {α : Type} {o : Option α} {k : α → Prop} (h : pm_opt o k) : ∃ v, o = some v ∧ k v := by
  unfold pm_opt at h
  split at h
  · exact ⟨_, rfl, h⟩
  · exact h.elim
/-- an object of a kind, its fields -/
def pm_ob (M : pmM) (a : Nat) (ci : Nat) (k : List Value → Prop) : Prop := match M a with
  | some (.inr (cj, fs)) => cj = ci ∧ k fs
  | _ => False
theorem pm_ob_of {M : pmM} {a ci : Nat} {k : List Value → Prop} (h : pm_ob M a ci k) : ∃ fs, M a = some (.inr (ci, fs)) ∧ k fs := by
  unfold pm_ob at h
  split at h
  · rename_i cj fs hM
    obtain ⟨rfl, h⟩ := h
    exact ⟨fs, hM, h⟩
  · exact h.elim
/-- an array of small numbers -/
def pm_ai (M : pmM) (a : Nat) (ok : FieldType → Bool) (k : FieldType → Nat → (Nat → Int32) → Prop) : Prop := match M a with
  | some (.inl (ty, n, .inl f)) => ok ty = true ∧ k ty n f
  | _ => False
theorem pm_ai_of {M : pmM} {a : Nat} {ok : FieldType → Bool} {k : FieldType → Nat → (Nat → Int32) → Prop} (h : pm_ai M a ok k) : ∃ ty n f, M a = some (.inl (ty, n, .inl f)) ∧ ok ty = true ∧ k ty n f := by
  unfold pm_ai at h
  split at h
  · exact ⟨_, _, _, by assumption, h⟩
  · exact h.elim
def pm_al (M : pmM) (a : Nat) (k : Nat → (Nat → Int64) → Prop) : Prop := match M a with
  | some (.inl (.long, n, .inr (.inl f))) => k n f
  | _ => False
theorem pm_al_of {M : pmM} {a : Nat} {k : Nat → (Nat → Int64) → Prop} (h : pm_al M a k) : ∃ n f, M a = some (.inl (.long, n, .inr (.inl f))) ∧ k n f := by
  unfold pm_al at h
  split at h
  · exact ⟨_, _, by assumption, h⟩
  · exact h.elim
def pm_aq (M : pmM) (a : Nat) (k : FieldType → Nat → (Nat → Option Nat) → Prop) : Prop := match M a with
  | some (.inl (ty, n, .inr (.inr (.inr (.inr f))))) => k ty n f
  | _ => False
theorem pm_aq_of {M : pmM} {a : Nat} {k : FieldType → Nat → (Nat → Option Nat) → Prop} (h : pm_aq M a k) : ∃ ty n f, M a = some (.inl (ty, n, .inr (.inr (.inr (.inr f))))) ∧ k ty n f := by
  unfold pm_aq at h
  split at h
  · exact ⟨_, _, _, by assumption, h⟩
  · exact h.elim
def pm_isInt (t : FieldType) : Bool := match t with | .int => true | _ => false
def pm_isChar (t : FieldType) : Bool := match t with | .char => true | _ => false
def pm_isByte (t : FieldType) : Bool := match t with | .byte => true | .boolean => true | _ => false
/-- the first contents of an array of numbers -/
def pm_zero (t : ArrayType) : (Nat → Int32) ⊕ (Nat → Int64) ⊕ (Nat → UInt32) ⊕ (Nat → UInt64) ⊕ (Nat → Option Nat) := match t with
  | .long => .inr (.inl fun _ => 0)
  | .float => .inr (.inr (.inl fun _ => 0))
  | .double => .inr (.inr (.inr (.inl fun _ => 0)))
  | _ => .inl fun _ => 0
def pm_nar (t : ArrayType) : Bool := match t with
  | .boolean => true
  | .char => true
  | .byte => true
  | .int => true
  | .long => true
  | _ => false
abbrev pmK : Type := Nat → pmL → List Value → pmM → Nat → Nat → Prop
/-- one instruction -/
def pm_ins (cl : List vw_C) (base : Nat) (X : pmX) (Rt : pmR) (K : pmK) (ins : Instr) (pc : Nat) (L : pmL) (st : List Value) (M : pmM) (kc ks : Nat) : Prop := match ins with
  | .aconst_null => K (pc + 1) L (.null :: st) M kc ks
  | .iconst n => K (pc + 1) L (.int (Int32.ofInt n) :: st) M kc ks
  | .lconst n => K (pc + 1) L (.long (Int64.ofNat n) :: st) M kc ks
  | .bipush n => K (pc + 2) L (.int (Int8.ofInt n).toInt32 :: st) M kc ks
  | .sipush n => K (pc + 3) L (.int (Int16.ofInt n).toInt32 :: st) M kc ks
  | .ldc i => (∃ v, X.ci i = some v ∧ K (pc + 2) L (.int v :: st) M kc ks) ∨ (∃ a, X.str i = some a ∧ K (pc + 2) L (.ref a :: st) M kc ks)
  | .ldc_w i => (∃ v, X.ci i = some v ∧ K (pc + 3) L (.int v :: st) M kc ks) ∨ (∃ a, X.str i = some a ∧ K (pc + 3) L (.ref a :: st) M kc ks)
  | .ldc2_w i => pm_opt (X.cl i) fun v => K (pc + 3) L (.long v :: st) M kc ks
  | .iload_n i => pm_old L i fun v => pm_isI v fun x => K (pc + 1) L (.int x :: st) M kc ks
  | .iload i => pm_old L i fun v => pm_isI v fun x => K (pc + 2) L (.int x :: st) M kc ks
  | .lload_n i => pm_old L i fun v => pm_isL v fun x => K (pc + 1) L (.long x :: st) M kc ks
  | .lload i => pm_old L i fun v => pm_isL v fun x => K (pc + 2) L (.long x :: st) M kc ks
  | .aload_n i => pm_old L i fun v => pm_isQ v fun q => K (pc + 1) L (va_rf q :: st) M kc ks
  | .aload i => pm_old L i fun v => pm_isQ v fun q => K (pc + 2) L (va_rf q :: st) M kc ks
  | .istore_n i => (i : Nat) < X.nL ∧ ps_i st fun x r => K (pc + 1) (pm_st1 L i (.int x)) r M kc ks
  | .istore i => i < X.nL ∧ ps_i st fun x r => K (pc + 2) (pm_st1 L i (.int x)) r M kc ks
  | .lstore_n i => (i : Nat) + 1 < X.nL ∧ ps_l st fun x r => K (pc + 1) (pm_st2 L i (.long x)) r M kc ks
  | .lstore i => i + 1 < X.nL ∧ ps_l st fun x r => K (pc + 2) (pm_st2 L i (.long x)) r M kc ks
  | .astore_n i => (i : Nat) < X.nL ∧ ps_q st fun q r => K (pc + 1) (pm_st1 L i (va_rf q)) r M kc ks
  | .astore i => i < X.nL ∧ ps_q st fun q r => K (pc + 2) (pm_st1 L i (va_rf q)) r M kc ks
  | .iinc i n => i < X.nL ∧ pm_old L i fun v => pm_isI v fun x => K (pc + 3) (pm_st1 L i (.int (x + Int32.ofInt n))) st M kc ks
  | .iadd => ps_ii st fun x y r => K (pc + 1) L (.int (x + y) :: r) M kc ks
  | .isub => ps_ii st fun x y r => K (pc + 1) L (.int (x - y) :: r) M kc ks
  | .imul => ps_ii st fun x y r => K (pc + 1) L (.int (x * y) :: r) M kc ks
  | .iand => ps_ii st fun x y r => K (pc + 1) L (.int (x &&& y) :: r) M kc ks
  | .ior => ps_ii st fun x y r => K (pc + 1) L (.int (x ||| y) :: r) M kc ks
  | .ixor => ps_ii st fun x y r => K (pc + 1) L (.int (x ^^^ y) :: r) M kc ks
  | .ishl => ps_ii st fun x y r => K (pc + 1) L (.int (x <<< (y &&& 31)) :: r) M kc ks
  | .ishr => ps_ii st fun x y r => K (pc + 1) L (.int (x >>> (y &&& 31)) :: r) M kc ks
  | .iushr => ps_ii st fun x y r => K (pc + 1) L (.int (x.toUInt32 >>> (y.toUInt32 &&& Int32.toUInt32 31)).toInt32 :: r) M kc ks
  | .idiv => ps_ii st fun x y r => ¬ y = 0 ∧ K (pc + 1) L (.int (x / y) :: r) M kc ks
  | .irem => ps_ii st fun x y r => ¬ y = 0 ∧ K (pc + 1) L (.int (x - x / y * y) :: r) M kc ks
  | .ineg => ps_i st fun x r => K (pc + 1) L (.int (-x) :: r) M kc ks
  | .ladd => ps_ll st fun x y r => K (pc + 1) L (.long (x + y) :: r) M kc ks
  | .lsub => ps_ll st fun x y r => K (pc + 1) L (.long (x - y) :: r) M kc ks
  | .lmul => ps_ll st fun x y r => K (pc + 1) L (.long (x * y) :: r) M kc ks
  | .land => ps_ll st fun x y r => K (pc + 1) L (.long (x &&& y) :: r) M kc ks
  | .lor => ps_ll st fun x y r => K (pc + 1) L (.long (x ||| y) :: r) M kc ks
  | .lxor => ps_ll st fun x y r => K (pc + 1) L (.long (x ^^^ y) :: r) M kc ks
  | .lrem => ps_ll st fun x y r => ¬ y = 0 ∧ K (pc + 1) L (.long (x - x / y * y) :: r) M kc ks
  | .ldiv => ps_ll st fun x y r => ¬ y = 0 ∧ K (pc + 1) L (.long (x / y) :: r) M kc ks
  | .lshr => ps_li st fun x y r => K (pc + 1) L (.long (x >>> (y.toInt64 &&& 63)) :: r) M kc ks
  | .lcmp => ps_ll st fun x y r => K (pc + 1) L (.int (lg_cmp x y) :: r) M kc ks
  | .lshl => ps_li st fun x y r => K (pc + 1) L (.long (x <<< (y.toInt64 &&& 63)) :: r) M kc ks
  | .lushr => ps_li st fun x y r => K (pc + 1) L (.long (x.toUInt64 >>> (y.toInt64.toUInt64 &&& Int64.toUInt64 63)).toInt64 :: r) M kc ks
  | .i2l => ps_i st fun x r => K (pc + 1) L (.long x.toInt64 :: r) M kc ks
  | .l2i => ps_l st fun x r => K (pc + 1) L (.int x.toInt32 :: r) M kc ks
  | .i2b => ps_i st fun x r => K (pc + 1) L (.int x.toInt8.toInt32 :: r) M kc ks
  | .i2c => ps_i st fun x r => K (pc + 1) L (.int (x.toUInt32 % 65536).toInt32 :: r) M kc ks
  | .dup => ps_v st fun v r => v.category = 1 ∧ K (pc + 1) L (v :: v :: r) M kc ks
  | .dup_x1 => ps_v st fun v r => ps_v r fun w r => v.category = 1 ∧ w.category = 1 ∧ K (pc + 1) L (v :: w :: v :: r) M kc ks
  | .dup2 => ps_v st fun v r => ps_v r fun w r => v.category = 1 ∧ w.category = 1 ∧ K (pc + 1) L (v :: w :: v :: w :: r) M kc ks
  | .pop => ps_v st fun v r => v.category = 1 ∧ K (pc + 1) L r M kc ks
  | .goto off => pm_jok pc off ∧ K (pm_tgt pc off) L st M kc ks
  | .ifCond c off => pm_jok pc off ∧ ps_i st fun x r => (pm_cmp c x 0 → K (pm_tgt pc off) L r M kc ks) ∧ (¬ pm_cmp c x 0 → K (pc + 3) L r M kc ks)
  | .if_icmp c off => pm_jok pc off ∧ ps_ii st fun x y r => (pm_cmp c x y → K (pm_tgt pc off) L r M kc ks) ∧ (¬ pm_cmp c x y → K (pc + 3) L r M kc ks)
  | .if_acmp c off => pm_jok pc off ∧ ps_q st fun y r => ps_q r fun x r => ((c = .eq ↔ x = y) → K (pm_tgt pc off) L r M kc ks) ∧ (¬ (c = .eq ↔ x = y) → K (pc + 3) L r M kc ks)
  | .ifnull off => pm_jok pc off ∧ ps_q st fun q r => (q = none → K (pm_tgt pc off) L r M kc ks) ∧ (¬ q = none → K (pc + 3) L r M kc ks)
  | .ifnonnull off => pm_jok pc off ∧ ps_q st fun q r => (¬ q = none → K (pm_tgt pc off) L r M kc ks) ∧ (q = none → K (pc + 3) L r M kc ks)
  | .tableswitch d lo hi offs => ps_i st fun x r => (x.toInt < lo ∨ hi < x.toInt → pm_jok pc d ∧ K (pm_tgt pc d) L r M kc ks) ∧ (¬ x.toInt < lo → ¬ hi < x.toInt → pm_opt offs[(x.toInt - lo).toNat]? fun off => pm_jok pc off ∧ K (pm_tgt pc off) L r M kc ks)
  | .getfield i => pm_opt (X.fld i) fun f => ps_r st fun a r => pm_ob M a f.1 fun fs => pm_opt fs[f.2.1]? fun v => K (pc + 3) L (v :: r) M kc ks
  | .putfield i => pm_opt (X.fld i) fun f => ps_v st fun v r => ps_r r fun a r => pm_ob M a f.1 fun fs => base ≤ a ∧ f.2.1 < fs.length ∧ narrow f.2.2.1 v = v ∧ fits f.2.2.1 v = true ∧ f.2.2.2 = true ∧ K (pc + 3) L r (pm_up M a (.inr (f.1, fs.set f.2.1 v))) kc ks
  | .getstatic i => pm_opt (X.sta i) fun v => K (pc + 3) L (v :: st) M kc ks
  | .arraylength => ps_r st fun a r => match M a with
    | some (.inl (_, n, _)) => K (pc + 1) L (.int (Int32.ofNat n) :: r) M kc ks
    | _ => False
  | .iaload => ps_i st fun i r => ps_r r fun a r => pm_ai M a pm_isInt fun _ n f => vp_in i n ∧ K (pc + 1) L (.int (f i.toNatClampNeg) :: r) M kc ks
  | .baload => ps_i st fun i r => ps_r r fun a r => pm_ai M a pm_isByte fun _ n f => vp_in i n ∧ K (pc + 1) L (.int (f i.toNatClampNeg) :: r) M kc ks
  | .caload => ps_i st fun i r => ps_r r fun a r => pm_ai M a pm_isChar fun _ n f => vp_in i n ∧ K (pc + 1) L (.int (f i.toNatClampNeg) :: r) M kc ks
  | .laload => ps_i st fun i r => ps_r r fun a r => pm_al M a fun n f => vp_in i n ∧ K (pc + 1) L (.long (f i.toNatClampNeg) :: r) M kc ks
  | .aaload => ps_i st fun i r => ps_r r fun a r => pm_aq M a fun ty n f => ty.isReference = true ∧ vp_in i n ∧ K (pc + 1) L (va_rf (f i.toNatClampNeg) :: r) M kc ks
  | .iastore => ps_ii st fun i x r => ps_r r fun a r => pm_ai M a pm_isInt fun ty n f => base ≤ a ∧ vp_in i n ∧ K (pc + 1) L r (pm_up M a (.inl (ty, n, .inl (upd f i.toNatClampNeg x)))) kc ks
  | .bastore => ps_ii st fun i x r => ps_r r fun a r => pm_ai M a pm_isByte fun ty n f => base ≤ a ∧ vp_in i n ∧ K (pc + 1) L r (pm_up M a (.inl (ty, n, .inl (upd f i.toNatClampNeg (vp_nar ty x))))) kc ks
  | .castore => ps_ii st fun i x r => ps_r r fun a r => pm_ai M a pm_isChar fun ty n f => base ≤ a ∧ vp_in i n ∧ K (pc + 1) L r (pm_up M a (.inl (ty, n, .inl (upd f i.toNatClampNeg (vp_nar ty x))))) kc ks
  | .lastore => ps_l st fun x r => ps_i r fun i r => ps_r r fun a r => pm_al M a fun n f => base ≤ a ∧ vp_in i n ∧ K (pc + 1) L r (pm_up M a (.inl (.long, n, .inr (.inl (vp_updL f i.toNatClampNeg x))))) kc ks
  | .aastore => ps_q st fun q r => ps_i r fun i r => ps_r r fun a r => pm_aq M a fun ty n f => ∃ C, ty = .object C ∧ base ≤ a ∧ vp_in i n ∧ (∀ b, q = some b → base ≤ b ∧ ∃ (ci : Nat) (w : vw_C) (fs : List Value), M b = some (.inr (ci, fs)) ∧ cl[ci]? = some w ∧ w.1 = C) ∧ K (pc + 1) L r (pm_up M a (.inl (.object C, n, .inr (.inr (.inr (.inr (va_up f i.toNatClampNeg q))))))) kc ks
  | .new i => pm_opt (X.mk i) fun o => 1 ≤ kc ∧ o.2.length ≤ ks ∧ ∀ q, M q = none → base ≤ q → K (pc + 3) L (.ref q :: st) (pm_up M q (.inr o)) (kc - 1) (ks - o.2.length)
  | .newarray t => pm_nar t = true ∧ ps_i st fun n r => ¬ n < 0 ∧ n.toNatClampNeg ≤ 4000000 ∧ 1 ≤ kc ∧ n.toNatClampNeg ≤ ks ∧ ∀ q, M q = none → base ≤ q → K (pc + 2) L (.ref q :: r) (pm_up M q (.inl (newarray.typeOf t, n.toNatClampNeg, pm_zero t))) (kc - 1) (ks - n.toNatClampNeg)
  | .anewarray i => pm_opt (X.arr i) fun C => ps_i st fun n r => ¬ n < 0 ∧ n.toNatClampNeg ≤ 4000000 ∧ 1 ≤ kc ∧ n.toNatClampNeg ≤ ks ∧ ∀ q, M q = none → base ≤ q → K (pc + 3) L (.ref q :: r) (pm_up M q (.inl (.object C, n.toNatClampNeg, .inr (.inr (.inr (.inr fun _ => none)))))) (kc - 1) (ks - n.toNatClampNeg)
  | .invokevirtual i => pm_opt (X.cal i) fun y => y.1 = 0 ∧ y.2.1 ≤ st.length ∧ pm_cats (st.drop y.2.1) ≤ 8 ∧ y.2.2 (st.take y.2.1).reverse M kc ks fun v M1 kc1 ks1 => K (pc + 3) L (v.toList ++ st.drop y.2.1) M1 kc1 ks1
  | .invokespecial i => pm_opt (X.cal i) fun y => y.1 = 1 ∧ y.2.1 ≤ st.length ∧ pm_cats (st.drop y.2.1) ≤ 8 ∧ y.2.2 (st.take y.2.1).reverse M kc ks fun v M1 kc1 ks1 => K (pc + 3) L (v.toList ++ st.drop y.2.1) M1 kc1 ks1
  | .invokestatic i => pm_opt (X.cal i) fun y => y.1 = 2 ∧ y.2.1 ≤ st.length ∧ pm_cats (st.drop y.2.1) ≤ 12 ∧ y.2.2 (st.take y.2.1).reverse M kc ks fun v M1 kc1 ks1 => K (pc + 3) L (v.toList ++ st.drop y.2.1) M1 kc1 ks1
  | .multianewarray i d => pm_opt (X.cal (100000 + i)) fun y => y.1 = 3 ∧ d = 2 ∧ y.2.1 ≤ st.length ∧ pm_cats (st.drop y.2.1) ≤ 8 ∧ y.2.2 (st.take y.2.1).reverse M kc ks fun v M1 kc1 ks1 => K (pc + 4) L (v.toList ++ st.drop y.2.1) M1 kc1 ks1
  | .ireturn => ∃ x ty, st = [.int x] ∧ X.ret = some ty ∧ narrow ty (.int x) = .int x ∧ Rt (some (.int x)) M kc ks
  | .lreturn => ∃ x, st = [.long x] ∧ X.ret = some .long ∧ Rt (some (.long x)) M kc ks
  | .areturn => ∃ q ty, st = [va_rf q] ∧ X.ret = some ty ∧ ty.isReference = true ∧ Rt (some (va_rf q)) M kc ks
  | .return_ => st = [] ∧ X.ret = none ∧ Rt none M kc ks
  | _ => False
/-- a picture that shows less -/
def pm_le (M' M : pmM) : Prop := ∀ (a : Nat) (e : pmE), M' a = some e → M a = some e
/-- what is closed under the steps of a body, and holds of more when it holds of less (locals, cells, room) -/
def pm_cl (cl : List vw_C) (base : Nat) (X : pmX) (Rt : pmR) (G : pmK) : Prop := (∀ (pc : Nat) (L : pmL) (st : List Value) (M : pmM) (kc ks : Nat) (ins : Instr), X.code pc = some ins → pm_ins cl base X Rt G ins pc L st M kc ks → G pc L st M kc ks) ∧ ∀ (is : List Nat) (pc : Nat) (L : pmL) (st : List Value) (M M' : pmM) (kc ks kc' ks' : Nat), pm_le M' M → kc' ≤ kc → ks' ≤ ks → G pc (lv_pick L is) st M' kc' ks' → G pc L st M kc ks
/-- what a method does: its body, from its start (the least that is closed under its steps) -/
def pm_mt (cl : List vw_C) (base : Nat) (X : pmX) : pmT := fun As M mc ms Rt => (lg_sl As).length ≤ X.nL ∧ ∀ G : pmK, pm_cl cl base X Rt G → G 0 (lv_args 0 As) [] M mc ms
/-- what was there before all: statics (where they are declared, what they hold), constant texts (whose entry, what they say, where they are), nest mates' fields and methods, arrays of references, arrays of arrays -/
abbrev pmZ : Type := List (String × String × String × Value) × List (String × Nat × String × Nat) × List (String × Nat × String × String × String × String) × List (String × Nat × MethodName × String) × List String × List FieldType
/-- the receiver is there, of its kind -/
def pm_rcv (ci : Nat) (T : pmT) : pmT := fun As M mc ms Rt => ∃ (b : Nat) (As' : List Value) (fs : List Value), As = .ref b :: As' ∧ M b = some (.inr (ci, fs)) ∧ T As M mc ms Rt
/-- Object's own start: nothing -/
def pm_oi : pmT := fun As M kc ks Rt => ∃ b : Nat, As = [.ref b] ∧ Rt none M kc ks
/-- System.arraycopy between arrays of small numbers of one type -/
def pm_acp (base : Nat) : pmT := fun As M kc ks Rt => ∃ (a b : Nat) (sp dp n : Int32) (ty : FieldType) (n0 n1 : Nat) (f g : Nat → Int32), As = [.ref a, .int sp, .ref b, .int dp, .int n] ∧ M a = some (.inl (ty, n0, .inl f)) ∧ M b = some (.inl (ty, n1, .inl g)) ∧ refKind ty = false ∧ base ≤ a ∧ base ≤ b ∧ ¬ sp < 0 ∧ ¬ dp < 0 ∧ ¬ n < 0 ∧ sp.toNatClampNeg + n.toNatClampNeg ≤ n0 ∧ dp.toNatClampNeg + n.toNatClampNeg ≤ n1 ∧ (∀ i, i < n.toNatClampNeg → fits ty (.int (f (sp.toNatClampNeg + i))) = true) ∧ Rt none (pm_up M b (.inl (ty, n1, .inl (va_cpy f g sp.toNatClampNeg dp.toNatClampNeg n.toNatClampNeg)))) kc ks
/-- Math.max, Math.min -/
def pm_mx : pmT := fun As M kc ks Rt => ∃ x y : Int32, As = [.int x, .int y] ∧ Rt (some (.int (if x < y then y else x))) M kc ks
def pm_mn : pmT := fun As M kc ks Rt => ∃ x y : Int32, As = [.int x, .int y] ∧ Rt (some (.int (if y < x then y else x))) M kc ks
/-- an array of arrays of small numbers, new: the outer one, behind it the inner ones -/
def pm_mul (M : pmM) (q : Nat) (ty : FieldType) (n k : Nat) : pmM := fun b => if q ≤ b ∧ b ≤ q + n then some (if b = q then .inl (.array ty, n, .inr (.inr (.inr (.inr fun j => if j < n then some (q + 1 + j) else none)))) else .inl (ty, k, .inl fun _ => 0)) else M b
def pm_mna (base : Nat) (ty : FieldType) : pmT := fun As M kc ks Rt => ∃ n k : Int32, As = [.int n, .int k] ∧ ¬ n < 0 ∧ ¬ k < 0 ∧ n.toNatClampNeg ≤ 4000 ∧ k.toNatClampNeg ≤ 4000 ∧ 1 + n.toNatClampNeg ≤ kc ∧ n.toNatClampNeg + n.toNatClampNeg * k.toNatClampNeg ≤ ks ∧ ∀ q, base ≤ q → (∀ j, j ≤ n.toNatClampNeg → M (q + j) = none) → Rt (some (.ref q)) (pm_mul M q ty n.toNatClampNeg k.toNatClampNeg) (kc - (1 + n.toNatClampNeg)) (ks - (n.toNatClampNeg + n.toNatClampNeg * k.toNatClampNeg))
