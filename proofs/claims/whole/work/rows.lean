section
/-! THE MACHINE OF PICTURES: what a method's code does, said over a picture of the heap (an address: an array of a type, or an object of a kind by its number). 'pm_ins' is an instruction's weakest precondition; 'pm_sound' says that the machine itself does so. -/
abbrev pmE : Type := (FieldType × vp_A) ⊕ (Nat × List Value)
abbrev pmM : Type := Nat → Option pmE
abbrev pmL : Type := List (Nat × Value)
/-- what a callee does: its arguments (the receiver first), the picture, its budget of cells and slots, what must hold behind it -/
abbrev pmT : Type := List Value → pmM → Nat → Nat → (Option Value → pmM → Prop) → Prop
def pm_up (M : pmM) (a : Nat) (e : pmE) : pmM := fun b => if b = a then some e else M b
theorem pm_up_self (M : pmM) (a : Nat) (e : pmE) : pm_up M a e a = some e := if_pos rfl
theorem pm_up_ne (M : pmM) {a b : Nat} (e : pmE) (h : b ≠ a) : pm_up M a e b = M b := if_neg h
def pm_get : pmL → Nat → Option Value
  | [], _ => none
  | q :: r, i => if q.1 = i then some q.2 else pm_get r i
def pm_st1 (L : pmL) (i : Nat) (v : Value) : pmL := (i, v) :: L.filter (fun q => !(q.1 == i) && !(q.1 + 1 == i && q.2.category == 2))
def pm_st2 (L : pmL) (i : Nat) (v : Value) : pmL := (i, v) :: L.filter (fun q => !(q.1 == i) && (!(q.1 == i + 1) && !(q.1 + 1 == i && q.2.category == 2)))
def pm_cats (st : List Value) : Nat := (st.map fun v => v.category).sum
/-- a body's own words: code by place; a field's kind number, place, type, and whether it may be written here; an object's kind number and first fields; int, long constants; the name of an array's references; callees (how they are called, how many arguments with the receiver, what they do); statics; constant texts (their addresses); locals; the type that it returns -/
abbrev pmX : Type := (Nat → Option Instr) × (Nat → Option (Nat × Nat × FieldType × Bool)) × (Nat → Option (Nat × List Value)) × (Nat → Option Int32) × (Nat → Option Int64) × (Nat → Option String) × (Nat → Option (Nat × Nat × pmT)) × (Nat → Option Value) × (Nat → Option Nat) × Nat × Option FieldType
abbrev pmX.code (X : pmX) : Nat → Option Instr := X.1
abbrev pmX.fld (X : pmX) : Nat → Option (Nat × Nat × FieldType × Bool) := X.2.1
abbrev pmX.mk (X : pmX) : Nat → Option (Nat × List Value) := X.2.2.1
abbrev pmX.ci (X : pmX) : Nat → Option Int32 := X.2.2.2.1
abbrev pmX.cl (X : pmX) : Nat → Option Int64 := X.2.2.2.2.1
abbrev pmX.arr (X : pmX) : Nat → Option String := X.2.2.2.2.2.1
abbrev pmX.cal (X : pmX) : Nat → Option (Nat × Nat × pmT) := X.2.2.2.2.2.2.1
abbrev pmX.sta (X : pmX) : Nat → Option Value := X.2.2.2.2.2.2.2.1
abbrev pmX.str (X : pmX) : Nat → Option Nat := X.2.2.2.2.2.2.2.2.1
abbrev pmX.nL (X : pmX) : Nat := X.2.2.2.2.2.2.2.2.2.1
abbrev pmX.ret (X : pmX) : Option FieldType := X.2.2.2.2.2.2.2.2.2.2
-- stacks by shape
def ps_i (st : List Value) (k : Int32 → List Value → Prop) : Prop := match st with
  | .int x :: r => k x r
  | _ => False
def ps_l (st : List Value) (k : Int64 → List Value → Prop) : Prop := match st with
  | .long x :: r => k x r
  | _ => False
def ps_ii (st : List Value) (k : Int32 → Int32 → List Value → Prop) : Prop := match st with
  | .int y :: .int x :: r => k x y r
  | _ => False
def ps_ll (st : List Value) (k : Int64 → Int64 → List Value → Prop) : Prop := match st with
  | .long y :: .long x :: r => k x y r
  | _ => False
def ps_li (st : List Value) (k : Int64 → Int32 → List Value → Prop) : Prop := match st with
  | .int y :: .long x :: r => k x y r
  | _ => False
def ps_r (st : List Value) (k : Nat → List Value → Prop) : Prop := match st with
  | .ref a :: r => k a r
  | _ => False
def ps_q (st : List Value) (k : Option Nat → List Value → Prop) : Prop := match st with
  | .ref a :: r => k (some a) r
  | .null :: r => k none r
  | _ => False
def ps_v (st : List Value) (k : Value → List Value → Prop) : Prop := match st with
  | v :: r => k v r
  | _ => False
theorem ps_i_of {st : List Value} {k : Int32 → List Value → Prop} (h : ps_i st k) : ∃ x r, st = .int x :: r ∧ k x r := by
  unfold ps_i at h
  split at h
  · exact ⟨_, _, rfl, h⟩
  · exact h.elim
theorem ps_l_of {st : List Value} {k : Int64 → List Value → Prop} (h : ps_l st k) : ∃ x r, st = .long x :: r ∧ k x r := by
  unfold ps_l at h
  split at h
  · exact ⟨_, _, rfl, h⟩
  · exact h.elim
theorem ps_ii_of {st : List Value} {k : Int32 → Int32 → List Value → Prop} (h : ps_ii st k) : ∃ x y r, st = .int y :: .int x :: r ∧ k x y r := by
  unfold ps_ii at h
  split at h
  · exact ⟨_, _, _, rfl, h⟩
  · exact h.elim
theorem ps_ll_of {st : List Value} {k : Int64 → Int64 → List Value → Prop} (h : ps_ll st k) : ∃ x y r, st = .long y :: .long x :: r ∧ k x y r := by
  unfold ps_ll at h
  split at h
  · exact ⟨_, _, _, rfl, h⟩
  · exact h.elim
theorem ps_li_of {st : List Value} {k : Int64 → Int32 → List Value → Prop} (h : ps_li st k) : ∃ x y r, st = .int y :: .long x :: r ∧ k x y r := by
  unfold ps_li at h
  split at h
  · exact ⟨_, _, _, rfl, h⟩
  · exact h.elim
theorem ps_r_of {st : List Value} {k : Nat → List Value → Prop} (h : ps_r st k) : ∃ a r, st = .ref a :: r ∧ k a r := by
  unfold ps_r at h
  split at h
  · exact ⟨_, _, rfl, h⟩
  · exact h.elim
theorem ps_q_of {st : List Value} {k : Option Nat → List Value → Prop} (h : ps_q st k) : ∃ q r, st = va_rf q :: r ∧ k q r := by
  unfold ps_q at h
  split at h
  · exact ⟨some _, _, rfl, h⟩
  · exact ⟨none, _, rfl, h⟩
  · exact h.elim
theorem ps_v_of {st : List Value} {k : Value → List Value → Prop} (h : ps_v st k) : ∃ v r, st = v :: r ∧ k v r := by
  unfold ps_v at h
  split at h
  · exact ⟨_, _, rfl, h⟩
  · exact h.elim
def pm_tgt (pc : Nat) (off : Int) : Nat := ((pc : Int) + off).toNat
/-- the jump stays ahead of nothing: its target is a place -/
def pm_jok (pc : Nat) (off : Int) : Prop := 0 ≤ (pc : Int) + off
def pm_cmp (c : Jvm.ClassFile.Cond) (x y : Int32) : Prop := match c with
  | .eq => x = y
  | .ne => ¬ x = y
  | .lt => x < y
  | .ge => y ≤ x
  | .gt => y < x
  | .le => x ≤ y
def pm_old (L : pmL) (i : Nat) (k : Value → Prop) : Prop := match pm_get L i with
  | some v => k v
  | none => False
theorem pm_old_of {L : pmL} {i : Nat} {k : Value → Prop} (h : pm_old L i k) : ∃ v, pm_get L i = some v ∧ k v := by
  unfold pm_old at h
  split at h
  · exact ⟨_, by assumption, h⟩
  · exact h.elim
def pm_isI (v : Value) (k : Int32 → Prop) : Prop := match v with
  | .int x => k x
  | _ => False
def pm_isL (v : Value) (k : Int64 → Prop) : Prop := match v with
  | .long x => k x
  | _ => False
def pm_isQ (v : Value) (k : Option Nat → Prop) : Prop := match v with
  | .ref a => k (some a)
  | .null => k none
  | _ => False
theorem pm_isI_of {v : Value} {k : Int32 → Prop} (h : pm_isI v k) : ∃ x, v = .int x ∧ k x := by
  unfold pm_isI at h
  split at h
  · exact ⟨_, rfl, h⟩
  · exact h.elim
theorem pm_isL_of {v : Value} {k : Int64 → Prop} (h : pm_isL v k) : ∃ x, v = .long x ∧ k x := by
  unfold pm_isL at h
  split at h
  · exact ⟨_, rfl, h⟩
  · exact h.elim
theorem pm_isQ_of {v : Value} {k : Option Nat → Prop} (h : pm_isQ v k) : ∃ q, v = va_rf q ∧ k q := by
  unfold pm_isQ at h
  split at h
  · exact ⟨some _, rfl, h⟩
  · exact ⟨none, rfl, h⟩
  · exact h.elim
def pm_opt {α : Type} (o : Option α) (k : α → Prop) : Prop := match o with
  | some v => k v
  | none => False
theorem pm_opt_of {α : Type} {o : Option α} {k : α → Prop} (h : pm_opt o k) : ∃ v, o = some v ∧ k v := by
  unfold pm_opt at h
  split at h
  · exact ⟨_, rfl, h⟩
  · exact h.elim
/-- an object of a kind, its fields -/
def pm_ob (M : pmM) (a : Nat) (ci : Nat) (k : List Value → Prop) : Prop := match M a with
  | some (.inr (cj, fs)) => cj = ci ∧ k fs
  | _ => False
theorem pm_ob_of {M : pmM} {a ci : Nat} {k : List Value → Prop} (h : pm_ob M a ci k) : ∃ fs, M a = some (.inr (ci, fs)) ∧ k fs := by
  unfold pm_ob at h
  split at h
  · rename_i cj fs hM
    obtain ⟨rfl, h⟩ := h
    exact ⟨fs, hM, h⟩
  · exact h.elim
/-- an array of small numbers -/
def pm_ai (M : pmM) (a : Nat) (ok : FieldType → Bool) (k : FieldType → Nat → (Nat → Int32) → Prop) : Prop := match M a with
  | some (.inl (ty, n, .inl f)) => ok ty = true ∧ k ty n f
  | _ => False
theorem pm_ai_of {M : pmM} {a : Nat} {ok : FieldType → Bool} {k : FieldType → Nat → (Nat → Int32) → Prop} (h : pm_ai M a ok k) : ∃ ty n f, M a = some (.inl (ty, n, .inl f)) ∧ ok ty = true ∧ k ty n f := by
  unfold pm_ai at h
  split at h
  · exact ⟨_, _, _, by assumption, h⟩
  · exact h.elim
def pm_al (M : pmM) (a : Nat) (k : Nat → (Nat → Int64) → Prop) : Prop := match M a with
  | some (.inl (.long, n, .inr (.inl f))) => k n f
  | _ => False
theorem pm_al_of {M : pmM} {a : Nat} {k : Nat → (Nat → Int64) → Prop} (h : pm_al M a k) : ∃ n f, M a = some (.inl (.long, n, .inr (.inl f))) ∧ k n f := by
  unfold pm_al at h
  split at h
  · exact ⟨_, _, by assumption, h⟩
  · exact h.elim
def pm_aq (M : pmM) (a : Nat) (k : String → Nat → (Nat → Option Nat) → Prop) : Prop := match M a with
  | some (.inl (.object C, n, .inr (.inr (.inr (.inr f))))) => k C n f
  | _ => False
theorem pm_aq_of {M : pmM} {a : Nat} {k : String → Nat → (Nat → Option Nat) → Prop} (h : pm_aq M a k) : ∃ C n f, M a = some (.inl (.object C, n, .inr (.inr (.inr (.inr f))))) ∧ k C n f := by
  unfold pm_aq at h
  split at h
  · exact ⟨_, _, _, by assumption, h⟩
  · exact h.elim
def pm_isInt (t : FieldType) : Bool := match t with | .int => true | _ => false
def pm_isChar (t : FieldType) : Bool := match t with | .char => true | _ => false
def pm_isByte (t : FieldType) : Bool := match t with | .byte => true | .boolean => true | _ => false
/-- the first contents of an array of numbers -/
def pm_zero (t : ArrayType) : (Nat → Int32) ⊕ (Nat → Int64) ⊕ (Nat → UInt32) ⊕ (Nat → UInt64) ⊕ (Nat → Option Nat) := match t with
  | .long => .inr (.inl fun _ => 0)
  | .float => .inr (.inr (.inl fun _ => 0))
  | .double => .inr (.inr (.inr (.inl fun _ => 0)))
  | _ => .inl fun _ => 0
def pm_nar (t : ArrayType) : Bool := match t with
  | .boolean => true
  | .char => true
  | .byte => true
  | .int => true
  | .long => true
  | _ => false
abbrev pmK : Type := Nat → pmL → List Value → pmM → Nat → Nat → Prop
/-- one instruction -/
def pm_ins (cl : List vw_C) (base : Nat) (X : pmX) (Rt : Option Value → pmM → Prop) (K : pmK) (ins : Instr) (pc : Nat) (L : pmL) (st : List Value) (M : pmM) (kc ks : Nat) : Prop := match ins with
  | .aconst_null => K (pc + 1) L (.null :: st) M kc ks
  | .iconst n => K (pc + 1) L (.int (Int32.ofInt n) :: st) M kc ks
  | .lconst n => K (pc + 1) L (.long (Int64.ofNat n) :: st) M kc ks
  | .bipush n => K (pc + 2) L (.int (Int8.ofInt n).toInt32 :: st) M kc ks
  | .sipush n => K (pc + 3) L (.int (Int16.ofInt n).toInt32 :: st) M kc ks
  | .ldc i => (∃ v, X.ci i = some v ∧ K (pc + 2) L (.int v :: st) M kc ks) ∨ (∃ a, X.str i = some a ∧ K (pc + 2) L (.ref a :: st) M kc ks)
  | .ldc_w i => (∃ v, X.ci i = some v ∧ K (pc + 3) L (.int v :: st) M kc ks) ∨ (∃ a, X.str i = some a ∧ K (pc + 3) L (.ref a :: st) M kc ks)
  | .ldc2_w i => pm_opt (X.cl i) fun v => K (pc + 3) L (.long v :: st) M kc ks
  | .iload_n i => pm_old L i fun v => pm_isI v fun x => K (pc + 1) L (.int x :: st) M kc ks
  | .iload i => pm_old L i fun v => pm_isI v fun x => K (pc + 2) L (.int x :: st) M kc ks
  | .lload_n i => pm_old L i fun v => pm_isL v fun x => K (pc + 1) L (.long x :: st) M kc ks
  | .lload i => pm_old L i fun v => pm_isL v fun x => K (pc + 2) L (.long x :: st) M kc ks
  | .aload_n i => pm_old L i fun v => pm_isQ v fun q => K (pc + 1) L (va_rf q :: st) M kc ks
  | .aload i => pm_old L i fun v => pm_isQ v fun q => K (pc + 2) L (va_rf q :: st) M kc ks
  | .istore_n i => (i : Nat) < X.nL ∧ ps_i st fun x r => K (pc + 1) (pm_st1 L i (.int x)) r M kc ks
  | .istore i => i < X.nL ∧ ps_i st fun x r => K (pc + 2) (pm_st1 L i (.int x)) r M kc ks
  | .lstore_n i => (i : Nat) + 1 < X.nL ∧ ps_l st fun x r => K (pc + 1) (pm_st2 L i (.long x)) r M kc ks
  | .lstore i => i + 1 < X.nL ∧ ps_l st fun x r => K (pc + 2) (pm_st2 L i (.long x)) r M kc ks
  | .astore_n i => (i : Nat) < X.nL ∧ ps_q st fun q r => K (pc + 1) (pm_st1 L i (va_rf q)) r M kc ks
  | .astore i => i < X.nL ∧ ps_q st fun q r => K (pc + 2) (pm_st1 L i (va_rf q)) r M kc ks
  | .iinc i n => i < X.nL ∧ pm_old L i fun v => pm_isI v fun x => K (pc + 3) (pm_st1 L i (.int (x + Int32.ofInt n))) st M kc ks
  | .iadd => ps_ii st fun x y r => K (pc + 1) L (.int (x + y) :: r) M kc ks
  | .isub => ps_ii st fun x y r => K (pc + 1) L (.int (x - y) :: r) M kc ks
  | .imul => ps_ii st fun x y r => K (pc + 1) L (.int (x * y) :: r) M kc ks
  | .iand => ps_ii st fun x y r => K (pc + 1) L (.int (x &&& y) :: r) M kc ks
  | .ior => ps_ii st fun x y r => K (pc + 1) L (.int (x ||| y) :: r) M kc ks
  | .ixor => ps_ii st fun x y r => K (pc + 1) L (.int (x ^^^ y) :: r) M kc ks
  | .ishl => ps_ii st fun x y r => K (pc + 1) L (.int (x <<< (y &&& 31)) :: r) M kc ks
  | .ishr => ps_ii st fun x y r => K (pc + 1) L (.int (x >>> (y &&& 31)) :: r) M kc ks
  | .iushr => ps_ii st fun x y r => K (pc + 1) L (.int (x.toUInt32 >>> (y.toUInt32 &&& Int32.toUInt32 31)).toInt32 :: r) M kc ks
  | .idiv => ps_ii st fun x y r => ¬ y = 0 ∧ K (pc + 1) L (.int (x / y) :: r) M kc ks
  | .irem => ps_ii st fun x y r => ¬ y = 0 ∧ K (pc + 1) L (.int (x - x / y * y) :: r) M kc ks
  | .ineg => ps_i st fun x r => K (pc + 1) L (.int (-x) :: r) M kc ks
  | .ladd => ps_ll st fun x y r => K (pc + 1) L (.long (x + y) :: r) M kc ks
  | .lsub => ps_ll st fun x y r => K (pc + 1) L (.long (x - y) :: r) M kc ks
  | .lmul => ps_ll st fun x y r => K (pc + 1) L (.long (x * y) :: r) M kc ks
  | .land => ps_ll st fun x y r => K (pc + 1) L (.long (x &&& y) :: r) M kc ks
  | .lor => ps_ll st fun x y r => K (pc + 1) L (.long (x ||| y) :: r) M kc ks
  | .lxor => ps_ll st fun x y r => K (pc + 1) L (.long (x ^^^ y) :: r) M kc ks
  | .lrem => ps_ll st fun x y r => ¬ y = 0 ∧ K (pc + 1) L (.long (x - x / y * y) :: r) M kc ks
  | .ldiv => ps_ll st fun x y r => ¬ y = 0 ∧ K (pc + 1) L (.long (x / y) :: r) M kc ks
  | .lshr => ps_li st fun x y r => K (pc + 1) L (.long (x >>> (y.toInt64 &&& 63)) :: r) M kc ks
  | .lcmp => ps_ll st fun x y r => K (pc + 1) L (.int (lg_cmp x y) :: r) M kc ks
  | .lshl => ps_li st fun x y r => K (pc + 1) L (.long (x <<< (y.toInt64 &&& 63)) :: r) M kc ks
  | .lushr => ps_li st fun x y r => K (pc + 1) L (.long (x.toUInt64 >>> (y.toInt64.toUInt64 &&& Int64.toUInt64 63)).toInt64 :: r) M kc ks
  | .i2l => ps_i st fun x r => K (pc + 1) L (.long x.toInt64 :: r) M kc ks
  | .l2i => ps_l st fun x r => K (pc + 1) L (.int x.toInt32 :: r) M kc ks
  | .i2b => ps_i st fun x r => K (pc + 1) L (.int x.toInt8.toInt32 :: r) M kc ks
  | .i2c => ps_i st fun x r => K (pc + 1) L (.int (x.toUInt32 % 65536).toInt32 :: r) M kc ks
  | .dup => ps_v st fun v r => v.category = 1 ∧ K (pc + 1) L (v :: v :: r) M kc ks
  | .dup_x1 => ps_v st fun v r => ps_v r fun w r => v.category = 1 ∧ w.category = 1 ∧ K (pc + 1) L (v :: w :: v :: r) M kc ks
  | .dup2 => ps_v st fun v r => ps_v r fun w r => v.category = 1 ∧ w.category = 1 ∧ K (pc + 1) L (v :: w :: v :: w :: r) M kc ks
  | .pop => ps_v st fun v r => v.category = 1 ∧ K (pc + 1) L r M kc ks
  | .goto off => pm_jok pc off ∧ K (pm_tgt pc off) L st M kc ks
  | .ifCond c off => pm_jok pc off ∧ ps_i st fun x r => (pm_cmp c x 0 → K (pm_tgt pc off) L r M kc ks) ∧ (¬ pm_cmp c x 0 → K (pc + 3) L r M kc ks)
  | .if_icmp c off => pm_jok pc off ∧ ps_ii st fun x y r => (pm_cmp c x y → K (pm_tgt pc off) L r M kc ks) ∧ (¬ pm_cmp c x y → K (pc + 3) L r M kc ks)
  | .if_acmp c off => pm_jok pc off ∧ ps_q st fun y r => ps_q r fun x r => ((c = .eq ↔ x = y) → K (pm_tgt pc off) L r M kc ks) ∧ (¬ (c = .eq ↔ x = y) → K (pc + 3) L r M kc ks)
  | .ifnull off => pm_jok pc off ∧ ps_q st fun q r => (q = none → K (pm_tgt pc off) L r M kc ks) ∧ (¬ q = none → K (pc + 3) L r M kc ks)
  | .ifnonnull off => pm_jok pc off ∧ ps_q st fun q r => (¬ q = none → K (pm_tgt pc off) L r M kc ks) ∧ (q = none → K (pc + 3) L r M kc ks)
  | .tableswitch d lo hi offs => ps_i st fun x r => (x.toInt < lo ∨ hi < x.toInt → pm_jok pc d ∧ K (pm_tgt pc d) L r M kc ks) ∧ (¬ x.toInt < lo → ¬ hi < x.toInt → pm_opt offs[(x.toInt - lo).toNat]? fun off => pm_jok pc off ∧ K (pm_tgt pc off) L r M kc ks)
  | .getfield i => pm_opt (X.fld i) fun f => ps_r st fun a r => pm_ob M a f.1 fun fs => pm_opt fs[f.2.1]? fun v => K (pc + 3) L (v :: r) M kc ks
  | .putfield i => pm_opt (X.fld i) fun f => ps_v st fun v r => ps_r r fun a r => pm_ob M a f.1 fun fs => base ≤ a ∧ f.2.1 < fs.length ∧ narrow f.2.2.1 v = v ∧ fits f.2.2.1 v = true ∧ f.2.2.2 = true ∧ K (pc + 3) L r (pm_up M a (.inr (f.1, fs.set f.2.1 v))) kc ks
  | .getstatic i => pm_opt (X.sta i) fun v => K (pc + 3) L (v :: st) M kc ks
  | .arraylength => ps_r st fun a r => match M a with
    | some (.inl (_, n, _)) => K (pc + 1) L (.int (Int32.ofNat n) :: r) M kc ks
    | _ => False
  | .iaload => ps_i st fun i r => ps_r r fun a r => pm_ai M a pm_isInt fun _ n f => vp_in i n ∧ K (pc + 1) L (.int (f i.toNatClampNeg) :: r) M kc ks
  | .baload => ps_i st fun i r => ps_r r fun a r => pm_ai M a pm_isByte fun _ n f => vp_in i n ∧ K (pc + 1) L (.int (f i.toNatClampNeg) :: r) M kc ks
  | .caload => ps_i st fun i r => ps_r r fun a r => pm_ai M a pm_isChar fun _ n f => vp_in i n ∧ K (pc + 1) L (.int (f i.toNatClampNeg) :: r) M kc ks
  | .laload => ps_i st fun i r => ps_r r fun a r => pm_al M a fun n f => vp_in i n ∧ K (pc + 1) L (.long (f i.toNatClampNeg) :: r) M kc ks
  | .aaload => ps_i st fun i r => ps_r r fun a r => pm_aq M a fun _ n f => vp_in i n ∧ K (pc + 1) L (va_rf (f i.toNatClampNeg) :: r) M kc ks
  | .iastore => ps_ii st fun i x r => ps_r r fun a r => pm_ai M a pm_isInt fun ty n f => base ≤ a ∧ vp_in i n ∧ K (pc + 1) L r (pm_up M a (.inl (ty, n, .inl (upd f i.toNatClampNeg x)))) kc ks
  | .bastore => ps_ii st fun i x r => ps_r r fun a r => pm_ai M a pm_isByte fun ty n f => base ≤ a ∧ vp_in i n ∧ K (pc + 1) L r (pm_up M a (.inl (ty, n, .inl (upd f i.toNatClampNeg (vp_nar ty x))))) kc ks
  | .castore => ps_ii st fun i x r => ps_r r fun a r => pm_ai M a pm_isChar fun ty n f => base ≤ a ∧ vp_in i n ∧ K (pc + 1) L r (pm_up M a (.inl (ty, n, .inl (upd f i.toNatClampNeg (vp_nar ty x))))) kc ks
  | .lastore => ps_l st fun x r => ps_i r fun i r => ps_r r fun a r => pm_al M a fun n f => base ≤ a ∧ vp_in i n ∧ K (pc + 1) L r (pm_up M a (.inl (.long, n, .inr (.inl (vp_updL f i.toNatClampNeg x))))) kc ks
  | .aastore => ps_q st fun q r => ps_i r fun i r => ps_r r fun a r => pm_aq M a fun C n f => base ≤ a ∧ vp_in i n ∧ (∀ b, q = some b → base ≤ b ∧ ∃ (ci : Nat) (w : vw_C) (fs : List Value), M b = some (.inr (ci, fs)) ∧ cl[ci]? = some w ∧ w.1 = C) ∧ K (pc + 1) L r (pm_up M a (.inl (.object C, n, .inr (.inr (.inr (.inr (va_up f i.toNatClampNeg q))))))) kc ks
  | .new i => pm_opt (X.mk i) fun o => 1 ≤ kc ∧ o.2.length ≤ ks ∧ ∀ q, M q = none → base ≤ q → K (pc + 3) L (.ref q :: st) (pm_up M q (.inr o)) (kc - 1) (ks - o.2.length)
  | .newarray t => pm_nar t = true ∧ ps_i st fun n r => ¬ n < 0 ∧ n.toNatClampNeg ≤ 4000000 ∧ 1 ≤ kc ∧ n.toNatClampNeg ≤ ks ∧ ∀ q, M q = none → base ≤ q → K (pc + 2) L (.ref q :: r) (pm_up M q (.inl (newarray.typeOf t, n.toNatClampNeg, pm_zero t))) (kc - 1) (ks - n.toNatClampNeg)
  | .anewarray i => pm_opt (X.arr i) fun C => ps_i st fun n r => ¬ n < 0 ∧ n.toNatClampNeg ≤ 4000000 ∧ 1 ≤ kc ∧ n.toNatClampNeg ≤ ks ∧ ∀ q, M q = none → base ≤ q → K (pc + 3) L (.ref q :: r) (pm_up M q (.inl (.object C, n.toNatClampNeg, .inr (.inr (.inr (.inr fun _ => none)))))) (kc - 1) (ks - n.toNatClampNeg)
  | .invokevirtual i => pm_opt (X.cal i) fun y => y.1 = 0 ∧ y.2.1 ≤ st.length ∧ pm_cats (st.drop y.2.1) ≤ 8 ∧ ∃ mc ms, mc ≤ kc ∧ ms ≤ ks ∧ y.2.2 (st.take y.2.1).reverse M mc ms fun v M1 => K (pc + 3) L (v.toList ++ st.drop y.2.1) M1 (kc - mc) (ks - ms)
  | .invokespecial i => pm_opt (X.cal i) fun y => y.1 = 1 ∧ y.2.1 ≤ st.length ∧ pm_cats (st.drop y.2.1) ≤ 8 ∧ ∃ mc ms, mc ≤ kc ∧ ms ≤ ks ∧ y.2.2 (st.take y.2.1).reverse M mc ms fun v M1 => K (pc + 3) L (v.toList ++ st.drop y.2.1) M1 (kc - mc) (ks - ms)
  | .invokestatic i => pm_opt (X.cal i) fun y => y.1 = 2 ∧ y.2.1 ≤ st.length ∧ pm_cats (st.drop y.2.1) ≤ 8 ∧ ∃ mc ms, mc ≤ kc ∧ ms ≤ ks ∧ y.2.2 (st.take y.2.1).reverse M mc ms fun v M1 => K (pc + 3) L (v.toList ++ st.drop y.2.1) M1 (kc - mc) (ks - ms)
  | .ireturn => ∃ x ty, st = [.int x] ∧ X.ret = some ty ∧ narrow ty (.int x) = .int x ∧ Rt (some (.int x)) M
  | .lreturn => ∃ x, st = [.long x] ∧ X.ret = some .long ∧ Rt (some (.long x)) M
  | .areturn => ∃ q ty, st = [va_rf q] ∧ X.ret = some ty ∧ ty.isReference = true ∧ Rt (some (va_rf q)) M
  | .return_ => st = [] ∧ X.ret = none ∧ Rt none M
  | _ => False
/-- what is closed under the steps of a body -/
def pm_cl (cl : List vw_C) (base : Nat) (X : pmX) (Rt : Option Value → pmM → Prop) (G : pmK) : Prop := ∀ (pc : Nat) (L : pmL) (st : List Value) (M : pmM) (kc ks : Nat) (ins : Instr), X.code pc = some ins → pm_ins cl base X Rt G ins pc L st M kc ks → G pc L st M kc ks
/-- what a method does: its body, from its start (the least that is closed under its steps) -/
def pm_mt (cl : List vw_C) (base : Nat) (X : pmX) : pmT := fun As M mc ms Rt => (lg_sl As).length ≤ X.nL ∧ ∀ G : pmK, pm_cl cl base X Rt G → G 0 (lv_args 0 As) [] M mc ms
end
section
/-! The picture and the heap; the machine does what 'pm_ins' says. -/
def pm_rel (tys : List (ClassId × FieldType)) (e : pmE) (v : va_E) : Prop := match e, v with
  | .inl x, .inl y => x.2 = y.2 ∧ ∃ t : Nat, tys[t]? = some (y.1, x.1)
  | .inr o, .inr o' => o = o'
  | _, _ => False
/-- what was there before all, and is only read -/
def pm_ro (D : va_G) (cl : List vw_C) (U : State) (H : Heap) (a : Nat) (e : pmE) : Prop := match e with
  | .inl (ty, n, .inl f) => ∃ cell : Cell, H[a]? = some cell ∧ U.isArrayOf cell ty ∧ cell.vm ≠ .unknown ∧ cell.slots.size = n ∧ ∀ j : Nat, j < n → cell.slots[j]? = some (.int (f j))
  | .inl _ => False
  | .inr o => va_at D cl (a, .inr o) H
def pm_P (D : va_G) (cl : List vw_C) (base : Nat) (M : pmM) (U : State) (H : Heap) : Prop := ∃ (ws : va_W) (tys : List (ClassId × FieldType)), va_K D cl tys U ∧ va_P D cl ws H ∧ va_D (fun q => base ≤ q) ws ∧ ∀ (a : Nat) (e : pmE), M a = some e → (base ≤ a ∧ ∃ (k : Nat) (v : va_E), ws[k]? = some (a, v) ∧ pm_rel tys e v) ∨ (a < base ∧ pm_ro D cl U H a e)
theorem pm_ro.kept {D : va_G} {cl : List vw_C} {U : State} {H H1 : Heap} {a : Nat} {e : pmE} (h : pm_ro D cl U H a e) (hq : H1[a]? = H[a]?) : pm_ro D cl U H1 a e := by
  unfold pm_ro at h ⊢
  split at h
  · obtain ⟨cell, h1, h2⟩ := h
    exact ⟨cell, hq.trans h1, h2⟩
  · exact h.elim
  · exact va_at.kept h hq
theorem pm_ro.moved {D : va_G} {cl : List vw_C} {u U : State} {H : Heap} {a : Nat} {e : pmE} (hvm : u.vm.Alike U.vm) (h : pm_ro D cl u H a e) : pm_ro D cl U H a e := by
  unfold pm_ro at h ⊢
  split at h
  · obtain ⟨cell, h1, h2, h3⟩ := h
    exact ⟨cell, h1, State.isArrayOf_alike hvm h2, h3⟩
  · exact h.elim
  · exact h
theorem pm_P.moved {D : va_G} {cl : List vw_C} {base : Nat} {M : pmM} {u U : State} {H : Heap} (hvm : u.vm.Alike U.vm) (h : pm_P D cl base M u H) : pm_P D cl base M U H := by
  obtain ⟨ws, tys, hK, hP, hD, hM⟩ := h
  refine ⟨ws, tys, hK.moved hvm, hP, hD, fun a e he => ?_⟩
  rcases hM a e he with h | ⟨h1, h2⟩
  · exact Or.inl h
  · exact Or.inr ⟨h1, h2.moved hvm⟩
theorem pm_rel_o {tys : List (ClassId × FieldType)} {o : Nat × List Value} : pm_rel tys (.inr o) (.inr o) := rfl
theorem pm_rel_a {tys : List (ClassId × FieldType)} {t : Nat} {cA : ClassId} {ty : FieldType} {x : vp_A} (h : tys[t]? = some (cA, ty)) : pm_rel tys (.inl (ty, x)) (.inl (cA, x)) := ⟨rfl, t, h⟩
theorem pm_rel.app {tys t2 : List (ClassId × FieldType)} {e : pmE} {v : va_E} (h : pm_rel tys e v) : pm_rel (tys ++ t2) e v := by
  unfold pm_rel at h ⊢
  split at h
  · obtain ⟨h1, t, ht⟩ := h
    exact ⟨h1, t, by rw [List.getElem?_append_left (List.getElem?_eq_some_iff.mp ht).1]; exact ht⟩
  · exact h
  · exact h.elim
/-- an object, read -/
theorem pm_P.ob {D : va_G} {cl : List vw_C} {base : Nat} {M : pmM} {U : State} {H : Heap} (h : pm_P D cl base M U H) {a : Nat} {o : Nat × List Value} (hM : M a = some (.inr o)) : ∃ tys, va_K D cl tys U ∧ va_P D cl [(a, .inr o)] H := by
  obtain ⟨ws, tys, hK, hP, hD, hq⟩ := h
  refine ⟨tys, hK, fun k q hk => ?_⟩
  have hk0 : k = 0 ∧ q = (a, .inr o) := by
    cases k with
    | zero => exact ⟨rfl, (Option.some.inj hk).symm⟩
    | succ k => simp at hk
  obtain ⟨rfl, rfl⟩ := hk0
  rcases hq a _ hM with ⟨-, k, v, hk2, hv⟩ | ⟨-, hr⟩
  · cases v with
    | inl x => exact hv.elim
    | inr o' =>
      have e : o = o' := hv
      subst e
      exact hP k _ hk2
  · exact hr
/-- what is written: the picture with one cell else -/
theorem pm_P.set {D : va_G} {cl : List vw_C} {base : Nat} {M : pmM} {U : State} {H H1 : Heap} {ws : va_W} {tys : List (ClassId × FieldType)} (hK : va_K D cl tys U) (hM : ∀ (a : Nat) (e : pmE), M a = some e → (base ≤ a ∧ ∃ (k : Nat) (v : va_E), ws[k]? = some (a, v) ∧ pm_rel tys e v) ∨ (a < base ∧ pm_ro D cl U H a e)) {k a : Nat} {v0 v : va_E} {e : pmE} (hk : ws[k]? = some (a, v0)) (hb : base ≤ a) (hr : pm_rel tys e v) (hD : va_D (fun q => base ≤ q) (ws.set k (a, v))) (hP : va_P D cl (ws.set k (a, v)) H1) (hro : ∀ q, q < base → H1[q]? = H[q]?) : pm_P D cl base (pm_up M a e) U H1 := by
  refine ⟨ws.set k (a, v), tys, hK, hP, hD, fun b e2 he => ?_⟩
  have hl := (List.getElem?_eq_some_iff.mp hk).1
  by_cases hba : b = a
  · subst hba
    rw [pm_up_self] at he
    cases he
    exact Or.inl ⟨hb, k, v, List.getElem?_set_self hl, hr⟩
  · rw [pm_up_ne M e hba] at he
    rcases hM b e2 he with ⟨h1, k2, v2, h2, h3⟩ | ⟨h1, h2⟩
    · refine Or.inl ⟨h1, k2, v2, ?_, h3⟩
      rw [List.getElem?_set_ne ?_]
      · exact h2
      · intro q
        subst q
        rw [hk] at h2
        cases h2
        exact hba rfl
    · exact Or.inr ⟨h1, h2.kept (hro b h1)⟩
/-- what is new -/
theorem pm_P.push {D : va_G} {cl : List vw_C} {base : Nat} {M : pmM} {U : State} {H H1 : Heap} {ws : va_W} {tys t2 : List (ClassId × FieldType)} (hK : va_K D cl (tys ++ t2) U) (hM : ∀ (a : Nat) (e : pmE), M a = some e → (base ≤ a ∧ ∃ (k : Nat) (v : va_E), ws[k]? = some (a, v) ∧ pm_rel tys e v) ∨ (a < base ∧ pm_ro D cl U H a e)) {a : Nat} {v : va_E} {e : pmE} (hr : pm_rel (tys ++ t2) e v) (hD : va_D (fun q => base ≤ q) (ws ++ [(a, v)])) (hP : va_P D cl (ws ++ [(a, v)]) H1) (hro : ∀ q, q < base → H1[q]? = H[q]?) : M a = none ∧ base ≤ a ∧ pm_P D cl base (pm_up M a e) U H1 := by
  have hlast : (ws ++ [(a, v)])[ws.length]? = some (a, v) := by simp
  have hb : base ≤ a := hD.2 _ _ hlast
  refine ⟨?_, hb, ws ++ [(a, v)], tys ++ t2, hK, hP, hD, fun b e2 he => ?_⟩
  · cases hMa : M a with
    | none => rfl
    | some e2 =>
      exfalso
      rcases hM a e2 hMa with ⟨-, k, v2, h2, -⟩ | ⟨h1, -⟩
      · have hkl := (List.getElem?_eq_some_iff.mp h2).1
        have := hD.1 k ws.length (a, v2) (a, v) (by rw [List.getElem?_append_left hkl]; exact h2) hlast rfl
        omega
      · omega
  · by_cases hba : b = a
    · subst hba
      rw [pm_up_self] at he
      cases he
      exact Or.inl ⟨hb, ws.length, v, hlast, hr⟩
    · rw [pm_up_ne M e hba] at he
      rcases hM b e2 he with ⟨h1, k2, v2, h2, h3⟩ | ⟨h1, h2⟩
      · exact Or.inl ⟨h1, k2, v2, by rw [List.getElem?_append_left (List.getElem?_eq_some_iff.mp h2).1]; exact h2, h3.app⟩
      · exact Or.inr ⟨h1, h2.kept (hro b h1)⟩
theorem pm_get_at {ls : Array Slot} {nL : Nat} {L : pmL} (h : lv_has ls nL L) {i : Nat} {v : Value} (hg : pm_get L i = some v) : ls[i]? = some (.val v) := by
  have key : ∀ (L : pmL), pm_get L i = some v → (i, v) ∈ L := by
    intro L
    induction L with
    | nil => intro h; cases h
    | cons q r ih =>
      intro h
      unfold pm_get at h
      by_cases hq : q.1 = i
      · rw [if_pos hq] at h
        cases h
        rw [← hq]
        exact List.mem_cons_self
      · rw [if_neg hq] at h
        exact List.mem_cons_of_mem _ (ih h)
  exact h.2.2 (i, v) (key L hg)
theorem pm_get_k {L : pmL} {i : Nat} {v : Value} (hg : pm_get L i = some v) : ∃ k : Nat, L[k]? = some (i, v) := by
  induction L with
  | nil => cases hg
  | cons q r ih =>
    unfold pm_get at hg
    by_cases hq : q.1 = i
    · rw [if_pos hq] at hg
      cases hg
      exact ⟨0, by rw [← hq]; rfl⟩
    · rw [if_neg hq] at hg
      obtain ⟨k, hk⟩ := ih hg
      exact ⟨k + 1, hk⟩
/-- how long an instruction is -/
def pm_len (pc : Nat) (ins : Instr) : Nat := match ins with
  | .bipush _ => 2
  | .sipush _ => 3
  | .ldc _ => 2
  | .ldc_w _ => 3
  | .ldc2_w _ => 3
  | .iload _ => 2
  | .lload _ => 2
  | .aload _ => 2
  | .istore _ => 2
  | .lstore _ => 2
  | .astore _ => 2
  | .iinc _ _ => 3
  | .goto _ => 3
  | .ifCond _ _ => 3
  | .if_icmp _ _ => 3
  | .if_acmp _ _ => 3
  | .ifnull _ => 3
  | .ifnonnull _ => 3
  | .getfield _ => 3
  | .putfield _ => 3
  | .getstatic _ => 3
  | .putstatic _ => 3
  | .new _ => 3
  | .newarray _ => 2
  | .anewarray _ => 3
  | .multianewarray _ _ => 4
  | .invokevirtual _ => 3
  | .invokespecial _ => 3
  | .invokestatic _ => 3
  | .checkcast _ => 3
  | .instanceof _ => 3
  | .tableswitch _ _ _ offs => 1 + (3 - pc % 4) + 12 + 4 * offs.size
  | .lookupswitch _ ps => 1 + (3 - pc % 4) + 8 + 8 * ps.size
  | _ => 1
theorem pm_jmp {pc : Nat} {off : Int} (h : pm_jok pc off) : (pc : Int) + off = (pm_tgt pc off : Int) := (Int.toNat_of_nonneg h).symm
/-- statics (where they are declared, what they hold) and constant texts (whose entry, what they say, where they are) that were there before all -/
abbrev pmZ : Type := List (String × String × String × Value) × List (String × Nat × String × Nat)
def pm_Z (base : Nat) (Z : pmZ) (U : State) (H : Heap) : Prop := (∀ q ∈ Z.1, va_Z q.1 q.2.1 q.2.2.1 q.2.2.2 (fun a => base ≤ a) U H) ∧ ∀ q ∈ Z.2, vk_R q.1 q.2.1 q.2.2.1 q.2.2.2 U
theorem pm_Z.warm {base : Nat} {Z : pmZ} {s U : State} {H : Heap} {locs : List Loc} (h : pm_Z base Z s s.heap) (hS : va_S (fun q => base ≤ q) s.heap H locs) (hU : U.heap = H) (hW : s.WarmedH U.vm) : pm_Z base Z U U.heap := by
  refine ⟨fun q hq => ?_, fun q hq => vk_R.warm hW (h.2 q hq)⟩
  rw [hU]
  exact va_Z.moved hW.alike ((h.1 q hq).kept (fun a h1 h2 => hS.2.1 a h1 h2))
end
section
/-! One walk for all bodies: 'pm_sound'. -/
section Steps
variable {p : Program} {l : Launch} {e : Env} {R : Room} {s : State} {m : MethodId} {args : Array Value} {below : List Frame} {meth : Method} {c : Code} {Q : State → Prop} {cc : ByteArray}
/-- a field's row: its table, its link -/
def pm_fok (cl : List vw_C) (own : String) (meth : Method) (args : Array Value) (s : State) (i : Nat) (f : Nat × Nat × FieldType × Bool) : Prop :=
  ∃ (C : String) (T : u_T) (N : Nat) (ty : Nat → FieldType) (Ts : List Cond), cl[f.1]? = some (C, T, N) ∧ f.2.1 < N ∧ (∀ w ∈ Ts, w.before args s = true) ∧ (∀ w ∈ u_ws C T N, w ∈ Ts) ∧ (∀ k, k < N → parseFieldDescriptor (T k).2.2.1 = some (ty k)) ∧ (∀ a, a < N → ∀ b, b < N → a ≠ b → (T a).2.1 ≠ (T b).2.1) ∧ ty f.2.1 = f.2.2.1 ∧
    ((Cond.fieldLink own i (T f.2.1).1 (T f.2.1).2.1 (T f.2.1).2.2.1).before args s = true ∨ ∃ host, (Cond.fieldLinkNest own i (T f.2.1).1 (T f.2.1).2.1 (T f.2.1).2.2.1 host).before args s = true) ∧
    (f.2.2.2 = true → (T f.2.1).2.2.2 = false ∨ ((T f.2.1).2.2.2 = true ∧ meth.name = "<init>" ∧ (T f.2.1).1 = own ∧ (Cond.fieldLink own i (T f.2.1).1 (T f.2.1).2.1 (T f.2.1).2.2.1).before args s = true))
def pm_nok (cl : List vw_C) (own : String) (args : Array Value) (s : State) (i : Nat) (o : Nat × List Value) : Prop :=
  ∃ (C : String) (T : u_T) (ty : Nat → FieldType) (Ts : List Cond), cl[o.1]? = some (C, T, o.2.length) ∧ (∀ w ∈ Ts, w.before args s = true) ∧ (∀ w ∈ u_ws C T o.2.length, w ∈ Ts) ∧ (∀ k, k < o.2.length → parseFieldDescriptor (T k).2.2.1 = some (ty k)) ∧ (Cond.classLink own i C).before args s = true ∧ (Cond.instantiable C o.2.length).before args s = true ∧ (Cond.initialized C).before args s = true ∧ ∀ j, j < o.2.length → defaultValue (ty j) = vp_V o.2 j
/-- what a call leaves -/
def pm_Qc (D : va_G) (cl : List vw_C) (base : Nat) (Rt : Option Value → pmM → Prop) : State → Outcome → State → Prop := fun st oc t => ∃ (v : Option Value) (M : pmM), oc = .returned v ∧ Rt v M ∧ pm_P D cl base M t t.heap ∧ va_F (fun q => base ≤ q) st t
def pm_inv (k i : Nat) : Instr := match k with
  | 0 => .invokevirtual i
  | 1 => .invokespecial i
  | _ => .invokestatic i
/-- a callee's row -/
def pm_cok (D : va_G) (cl : List vw_C) (base : Nat) (p : Program) (l : Launch) (e : Env) (R : Room) (s : State) (m : MethodId) (args : Array Value) (below : List Frame) (meth : Method) (c : Code) (nL : Nat) (cc : ByteArray) (i : Nat) (y : Nat × Nat × pmT) : Prop :=
  ∀ (Q : State → Prop) (pc : Nat) (ls : Array Slot) (As rest : List Value) (M : pmM) (mc ms cells slots : Nat) (Rt : Option Value → pmM → Prop) (H : Heap) (locs : List Loc),
    decode cc pc = .ok (pm_inv y.1 i, 3) → As.length = y.2.1 → pm_cats rest ≤ 8 → ls.size = nL → cells + mc ≤ R.cells → slots + ms ≤ R.slots → pm_P D cl base M s H → va_S (fun q => base ≤ q) s.heap H locs → y.2.2 As M mc ms Rt →
    (∀ (v : Option Value) (M1 : pmM) (H1 : Heap) (locs1 : List Loc), Rt v M1 → pm_P D cl base M1 s H1 → va_S (fun q => base ≤ q) s.heap H1 locs1 → W p l e R s m args below meth c H1 locs1 (cells + mc) (slots + ms) Q (F0 m (pc + 3) ls (v.toList ++ rest))) →
    W p l e R s m args below meth c H locs cells slots Q (F0 m pc ls (As.reverse ++ rest))
/-- what must stand for a body -/
def pm_ok (D : va_G) (cl : List vw_C) (base : Nat) (Z : pmZ) (p : Program) (l : Launch) (e : Env) (R : Room) (s : State) (m : MethodId) (args : Array Value) (below : List Frame) (meth : Method) (c : Code) (own : String) (cc : ByteArray) (X : pmX) : Prop :=
  p.tables.exec = Jvm.exec ∧ c.code = cc ∧ s.vm.findClass own = some m.cls ∧ base ≤ s.heap.size ∧ (∀ pc ins, X.code pc = some ins → decode cc pc = .ok (ins, pm_len pc ins)) ∧
  (∀ i f, X.fld i = some f → pm_fok cl own meth args s i f) ∧ (∀ i o, X.mk i = some o → pm_nok cl own args s i o) ∧ (∀ i v, X.ci i = some v → (Jvm.Cond.constant own i v).before args s = true) ∧ (∀ i v, X.cl i = some v → (Jvm.Cond.constantLong own i v).before args s = true) ∧
  (∀ i C, X.arr i = some C → (Cond.classLink own i C).before args s = true ∧ va_AO C s) ∧ (∀ i y, X.cal i = some y → pm_cok D cl base p l e R s m args below meth c X.nL cc i y) ∧
  pm_Z base Z s s.heap ∧ (∀ i v, X.sta i = some v → ∃ (C n d : String), (C, n, d, v) ∈ Z.1 ∧ ((Cond.fieldLink own i C n d).before args s = true ∨ ∃ host, (Cond.fieldLinkNest own i C n d host).before args s = true)) ∧
  (∀ t : ArrayType, pm_nar t = true → (Cond.arrayClass (newarray.typeOf t)).before args s = true) ∧ (∀ i a, X.str i = some a → ∃ tx, (own, i, tx, a) ∈ Z.2)
/-- a call, out of its run -/
theorem pm_call {D : va_G} {cl : List vw_C} {base : Nat} {H : Heap} {locs : List Loc} {cells slots mc ms pc : Nat} {ls : Array Slot} {st0 rest : List Value} {Rt : Option Value → pmM → Prop}
    (hr : va_Run p l e R s m args below meth c H locs cells slots mc ms (F0 m pc ls st0) rest (pm_Qc D cl base Rt) (fun q => base ≤ q)) (hS : va_S (fun q => base ≤ q) s.heap H locs)
    (kk : ∀ (v : Option Value) (M : pmM) (H1 : Heap) (locs1 : List Loc), Rt v M → pm_P D cl base M s H1 → va_S (fun q => base ≤ q) s.heap H1 locs1 → W p l e R s m args below meth c H1 locs1 (cells + mc) (slots + ms) Q (F0 m (pc + 3) ls (v.toList ++ rest))) :
    W p l e R s m args below meth c H locs cells slots Q (F0 m pc ls st0) := by
  intro T hT X
  obtain ⟨v, st₀, t, T', L, e0, X', hL, e1, e2, hq, hgo⟩ := hr T hT X
  obtain ⟨v', M, ho, hRt, hP, hF⟩ := hq
  cases ho
  have hal : s.vm.Alike t.vm := by rw [← e2]; exact X'.warmed.alike
  have hP2 : pm_P D cl base M s t.heap := hP.moved hal.symm
  have hS1 : va_S (fun q => base ≤ q) s.heap t.heap (locs ++ L) := by
    refine ⟨?_, ?_, ?_⟩
    · have := hF.1
      rw [e0] at this
      exact Nat.le_trans hS.1 this
    · intro q hq1 hq2
      have h2 := hF.2 q (by rw [e0]; exact Nat.lt_of_lt_of_le hq1 hS.1) hq2
      rw [h2, e0]
      exact hS.2.1 q hq1 hq2
    · intro z hz
      rcases List.mem_append.mp hz with h | h
      · exact hS.2.2 z h
      · exact hL z h
  obtain ⟨tt, a1, b1⟩ := kk v M t.heap (locs ++ L) hRt hP2 hS1 T' e1 X'
  exact ⟨tt, hgo tt a1, b1⟩
end Steps
end
section
section Main
variable {p : Program} {l : Launch} {e : Env} {R : Room} {s : State} {m : MethodId} {args : Array Value} {below : List Frame} {meth : Method} {c : Code} {Q : State → Prop} {cc : ByteArray} {D : va_G} {cl : List vw_C} {base : Nat} {own : String} {Z : pmZ} {X : pmX} {Rt : Option Value → pmM → Prop}
/-- an array of small numbers, read -/
theorem pm_rdi (hx : p.tables.exec = Jvm.exec) (hb : c.code = cc) {M : pmM} {H : Heap} {locs : List Loc} {cells slots pc : Nat} {ls : Array Slot} {rest : List Value} {a n : Nat} {f : Nat → Int32} {i : Int32} (hP : pm_P D cl base M s H) (hM : M a = some (.inl (.int, n, .inl f))) (hin : vp_in i n) (hdg : decode cc pc = .ok (.iaload, 1)) (kk : W p l e R s m args below meth c H locs cells slots Q (F0 m (pc + 1) ls (.int (f i.toNatClampNeg) :: rest))) : W p l e R s m args below meth c H locs cells slots Q (F0 m pc ls (.int i :: .ref a :: rest)) := by
  obtain ⟨ws, tys, hK, hPw, hD, hq⟩ := hP
  rcases hq a _ hM with ⟨-, k, v, hk, hv⟩ | ⟨-, cell, h1, h2, h3, h4, h5⟩
  · cases v with
    | inr o => exact hv.elim
    | inl y =>
      obtain ⟨cA, y⟩ := y
      obtain ⟨hxy, t, ht⟩ := hv
      have hxy : (n, .inl f) = y := hxy
      subst hxy
      exact va_iald hx hb hK hPw k t hk ht hin hdg kk
  · exact W.iald hx hb h1 h2 h3 (by rw [h4]; exact hin) (h5 _ (Nat.not_le.mp fun q => hin (Or.inr q))) rfl rfl hdg kk
theorem pm_rdb (hx : p.tables.exec = Jvm.exec) (hb : c.code = cc) {M : pmM} {H : Heap} {locs : List Loc} {cells slots pc : Nat} {ls : Array Slot} {rest : List Value} {a n : Nat} {f : Nat → Int32} {i : Int32} (hP : pm_P D cl base M s H) (hM : M a = some (.inl (.byte, n, .inl f))) (hin : vp_in i n) (hdg : decode cc pc = .ok (.baload, 1)) (kk : W p l e R s m args below meth c H locs cells slots Q (F0 m (pc + 1) ls (.int (f i.toNatClampNeg) :: rest))) : W p l e R s m args below meth c H locs cells slots Q (F0 m pc ls (.int i :: .ref a :: rest)) := by
  obtain ⟨ws, tys, hK, hPw, hD, hq⟩ := hP
  rcases hq a _ hM with ⟨-, k, v, hk, hv⟩ | ⟨-, cell, h1, h2, h3, h4, h5⟩
  · cases v with
    | inr o => exact hv.elim
    | inl y =>
      obtain ⟨cA, y⟩ := y
      obtain ⟨hxy, t, ht⟩ := hv
      have hxy : (n, .inl f) = y := hxy
      subst hxy
      exact va_bald hx hb hK hPw k t hk ht hin hdg kk
  · exact W.bald hx hb h1 h2 h3 (by rw [h4]; exact hin) (h5 _ (Nat.not_le.mp fun q => hin (Or.inr q))) rfl rfl hdg kk
theorem pm_rdz (hx : p.tables.exec = Jvm.exec) (hb : c.code = cc) {M : pmM} {H : Heap} {locs : List Loc} {cells slots pc : Nat} {ls : Array Slot} {rest : List Value} {a n : Nat} {f : Nat → Int32} {i : Int32} (hP : pm_P D cl base M s H) (hM : M a = some (.inl (.boolean, n, .inl f))) (hin : vp_in i n) (hdg : decode cc pc = .ok (.baload, 1)) (kk : W p l e R s m args below meth c H locs cells slots Q (F0 m (pc + 1) ls (.int (f i.toNatClampNeg) :: rest))) : W p l e R s m args below meth c H locs cells slots Q (F0 m pc ls (.int i :: .ref a :: rest)) := by
  obtain ⟨ws, tys, hK, hPw, hD, hq⟩ := hP
  rcases hq a _ hM with ⟨-, k, v, hk, hv⟩ | ⟨-, cell, h1, h2, h3, h4, h5⟩
  · cases v with
    | inr o => exact hv.elim
    | inl y =>
      obtain ⟨cA, y⟩ := y
      obtain ⟨hxy, t, ht⟩ := hv
      have hxy : (n, .inl f) = y := hxy
      subst hxy
      exact va_zald hx hb hK hPw k t hk ht hin hdg kk
  · exact W.zald hx hb h1 h2 h3 (by rw [h4]; exact hin) (h5 _ (Nat.not_le.mp fun q => hin (Or.inr q))) rfl rfl hdg kk
/-- a cell that may be written stands in the world -/
theorem pm_P.at {M : pmM} {U : State} {H : Heap} (hP : pm_P D cl base M U H) {a : Nat} {x : FieldType × vp_A} (hM : M a = some (.inl x)) (hb : base ≤ a) : ∃ (ws : va_W) (tys : List (ClassId × FieldType)) (k t : Nat) (cA : ClassId), va_K D cl tys U ∧ va_P D cl ws H ∧ va_D (fun q => base ≤ q) ws ∧ ws[k]? = some (a, .inl (cA, x.2)) ∧ tys[t]? = some (cA, x.1) ∧ ∀ (b : Nat) (e : pmE), M b = some e → (base ≤ b ∧ ∃ (k : Nat) (v : va_E), ws[k]? = some (b, v) ∧ pm_rel tys e v) ∨ (b < base ∧ pm_ro D cl U H b e) := by
  obtain ⟨ws, tys, hK, hPw, hD, hq⟩ := hP
  rcases hq a _ hM with ⟨-, k, v, hk, hv⟩ | ⟨h1, -⟩
  · cases v with
    | inr o => exact hv.elim
    | inl y =>
      obtain ⟨cA, y⟩ := y
      obtain ⟨hxy, t, ht⟩ := hv
      have hxy : x.2 = y := hxy
      subst hxy
      exact ⟨ws, tys, k, t, cA, hK, hPw, hD, hk, ht, hq⟩
  · omega
theorem pm_P.atO {M : pmM} {U : State} {H : Heap} (hP : pm_P D cl base M U H) {a : Nat} {o : Nat × List Value} (hM : M a = some (.inr o)) (hb : base ≤ a) : ∃ (ws : va_W) (tys : List (ClassId × FieldType)) (k : Nat), va_K D cl tys U ∧ va_P D cl ws H ∧ va_D (fun q => base ≤ q) ws ∧ ws[k]? = some (a, .inr o) ∧ ∀ (b : Nat) (e : pmE), M b = some e → (base ≤ b ∧ ∃ (k : Nat) (v : va_E), ws[k]? = some (b, v) ∧ pm_rel tys e v) ∨ (b < base ∧ pm_ro D cl U H b e) := by
  obtain ⟨ws, tys, hK, hPw, hD, hq⟩ := hP
  rcases hq a _ hM with ⟨-, k, v, hk, hv⟩ | ⟨h1, -⟩
  · cases v with
    | inl y => exact hv.elim
    | inr o' =>
      have e : o = o' := hv
      subst e
      exact ⟨ws, tys, k, hK, hPw, hD, hk, hq⟩
  · omega
theorem pm_rdc (hx : p.tables.exec = Jvm.exec) (hb : c.code = cc) {M : pmM} {H : Heap} {locs : List Loc} {cells slots pc : Nat} {ls : Array Slot} {rest : List Value} {a n : Nat} {f : Nat → Int32} {i : Int32} (hP : pm_P D cl base M s H) (hM : M a = some (.inl (.char, n, .inl f))) (hin : vp_in i n) (hdg : decode cc pc = .ok (.caload, 1)) (kk : W p l e R s m args below meth c H locs cells slots Q (F0 m (pc + 1) ls (.int (f i.toNatClampNeg) :: rest))) : W p l e R s m args below meth c H locs cells slots Q (F0 m pc ls (.int i :: .ref a :: rest)) := by
  obtain ⟨ws, tys, hK, hPw, hD, hq⟩ := hP
  rcases hq a _ hM with ⟨-, k, v, hk, hv⟩ | ⟨-, cell, h1, h2, h3, h4, h5⟩
  · cases v with
    | inr o => exact hv.elim
    | inl y =>
      obtain ⟨cA, y⟩ := y
      obtain ⟨hxy, t, ht⟩ := hv
      have hxy : (n, .inl f) = y := hxy
      subst hxy
      exact va_cald hx hb hK hPw k t hk ht hin hdg kk
  · exact W.cald hx hb h1 h2 h3 (by rw [h4]; exact hin) (h5 _ (Nat.not_le.mp fun q => hin (Or.inr q))) rfl rfl hdg kk
/-- how long an array is -/
theorem pm_rdn (hx : p.tables.exec = Jvm.exec) (hb : c.code = cc) {M : pmM} {H : Heap} {locs : List Loc} {cells slots pc : Nat} {ls : Array Slot} {rest : List Value} {a n : Nat} {ty : FieldType} {x : (Nat → Int32) ⊕ (Nat → Int64) ⊕ (Nat → UInt32) ⊕ (Nat → UInt64) ⊕ (Nat → Option Nat)} (hP : pm_P D cl base M s H) (hM : M a = some (.inl (ty, n, x))) (hdg : decode cc pc = .ok (.arraylength, 1)) (kk : W p l e R s m args below meth c H locs cells slots Q (F0 m (pc + 1) ls (.int (Int32.ofNat n) :: rest))) : W p l e R s m args below meth c H locs cells slots Q (F0 m pc ls (.ref a :: rest)) := by
  obtain ⟨ws, tys, hK, hPw, hD, hq⟩ := hP
  rcases hq a _ hM with ⟨-, k, v, hk, hv⟩ | ⟨-, hr⟩
  · cases v with
    | inr o => exact hv.elim
    | inl y =>
      obtain ⟨cA, y⟩ := y
      obtain ⟨hxy, t, ht⟩ := hv
      have hxy : (n, x) = y := hxy
      subst hxy
      exact va_alen hx hb hK hPw k t hk ht rfl hdg kk
  · cases x with
    | inr x => exact hr.elim
    | inl f =>
      obtain ⟨cell, h1, h2, h3, h4, h5⟩ := hr
      exact W.alen hx hb h1 h2 (by rw [h4]) rfl rfl hdg kk
theorem pm_al_len {M : pmM} {a : Nat} {k : Nat → Prop} (h : match M a with
    | some (.inl (_, n, _)) => k n
    | _ => False) : ∃ ty n x, M a = some (.inl (ty, n, x)) ∧ k n := by
  split at h
  · exact ⟨_, _, _, by assumption, h⟩
  · exact h.elim
/-- an array that isn't of small numbers stands in the world -/
theorem pm_P.wl {M : pmM} {U : State} {H : Heap} (hP : pm_P D cl base M U H) {a n : Nat} {ty : FieldType} {x : (Nat → Int64) ⊕ (Nat → UInt32) ⊕ (Nat → UInt64) ⊕ (Nat → Option Nat)} (hM : M a = some (.inl (ty, n, .inr x))) : ∃ (ws : va_W) (tys : List (ClassId × FieldType)) (k t : Nat) (cA : ClassId), va_K D cl tys U ∧ va_P D cl ws H ∧ va_D (fun q => base ≤ q) ws ∧ ws[k]? = some (a, .inl (cA, n, .inr x)) ∧ tys[t]? = some (cA, ty) ∧ ∀ (b : Nat) (e : pmE), M b = some e → (base ≤ b ∧ ∃ (k : Nat) (v : va_E), ws[k]? = some (b, v) ∧ pm_rel tys e v) ∨ (b < base ∧ pm_ro D cl U H b e) := by
  obtain ⟨ws, tys, hK, hPw, hD, hq⟩ := id hP
  rcases hq a _ hM with ⟨h1, -⟩ | ⟨-, hr⟩
  · exact hP.at hM h1
  · exact hr.elim
theorem pm_bytes (t : ArrayType) {n : Nat} (h : n ≤ 4000000) : n * componentBytes (newarray.typeOf t) ≤ 536870912 := by
  have h8 : componentBytes (newarray.typeOf t) ≤ 8 := by cases t <;> decide
  exact Nat.le_trans (Nat.mul_le_mul h h8) (by decide)
/-- the heap below the base is as it was -/
theorem pm_low {H H1 : Heap} {locs locs1 : List Loc} (hbs : base ≤ s.heap.size) (h : va_S (fun q => base ≤ q) s.heap H locs) (h1 : va_S (fun q => base ≤ q) s.heap H1 locs1) : ∀ q, q < base → H1[q]? = H[q]? := fun q hq => by
  rw [h1.2.1 q (by omega) (by omega), h.2.1 q (by omega) (by omega)]
/-- a constant text, by the long form -/
theorem pm_ldcwS (hexec : p.tables.exec = Jvm.exec) (hb : c.code = cc) {H : Heap} {locs : List Loc} {cells slots pc : Nat} {ls : Array Slot} {rest : List Value} {own tx : String} {index q : Nat} (hown : s.vm.findClass own = some m.cls) (hZ : vk_R own index tx q s) (hdg : decode cc pc = .ok (.ldc_w index, 3))
    (k : W p l e R s m args below meth c H locs cells slots Q (F0 m (pc + 3) ls (.ref q :: rest))) : W p l e R s m args below meth c H locs cells slots Q (F0 m pc ls rest) := by
  intro T hT X
  obtain ⟨t, a1, b1⟩ := k T hT X
  refine ⟨t, ?_, b1⟩
  obtain ⟨k0, cf, i, a', hk, hcf, hcp, -, hr, hev'⟩ := Cond.stringRef_spec hown hZ.1
  cases hZ.2.symm.trans hev'
  obtain ⟨k', hk', he⟩ := X.warmed.alike.2.2 _ _ hk
  have hr' : k'.resolved[index]? = some (some (.string q)) := by
    rcases X.warmed.entry hk hk' index with h | ⟨h, -⟩
    · rw [h]; exact hr
    · rw [hr] at h; cases h
  subst hb
  jvm_step X.here [hexec, hdg, ldc_w.wp_string (e := e) (s := T) (f := F0 m pc ls rest) X.here.top hk' (by rw [he]; exact hcf) hcp hr']
  exact a1
set_option maxHeartbeats 4000000 in
set_option maxRecDepth 100000 in
theorem pm_sound (C0 : pm_ok D cl base Z p l e R s m args below meth c own cc X) {mc ms : Nat} (hmc : mc ≤ R.cells) (hms : ms ≤ R.slots)
    (hret : ∀ (ins : Instr) (v : Option Value) (st : List Value) (pc : Nat) (M : pmM) (H : Heap) (locs : List Loc) (ls : Array Slot) (cells slots : Nat), decode cc pc = .ok (ins, 1) → ((∃ x ty, ins = .ireturn ∧ v = some (.int x) ∧ st = [.int x] ∧ X.ret = some ty ∧ narrow ty (.int x) = .int x) ∨ (∃ x, ins = .lreturn ∧ v = some (.long x) ∧ st = [.long x] ∧ X.ret = some .long) ∨ (∃ q ty, ins = .areturn ∧ v = some (va_rf q) ∧ st = [va_rf q] ∧ X.ret = some ty ∧ ty.isReference = true) ∨ (ins = .return_ ∧ v = none ∧ st = [] ∧ X.ret = none)) → Rt v M → pm_P D cl base M s H → va_S (fun q => base ≤ q) s.heap H locs → cells ≤ mc → slots ≤ ms → W p l e R s m args below meth c H locs cells slots Q (F0 m pc ls st)) :
    pm_cl cl base X Rt (fun pc L st M kc ks => ∀ (H : Heap) (locs : List Loc) (ls : Array Slot) (cells slots : Nat), pm_P D cl base M s H → va_S (fun q => base ≤ q) s.heap H locs → lv_has ls X.nL L → cells + kc ≤ mc → slots + ks ≤ ms → W p l e R s m args below meth c H locs cells slots Q (F0 m pc ls st)) := by
  obtain ⟨hx, hb, hown, hbs, hc, hfld, hmk, hci, hcl, harr, hcal, hZ0, hsta, hnar, hstr⟩ := C0
  have hA : ∀ q, s.heap.size ≤ q → base ≤ q := fun q h => Nat.le_trans hbs h
  intro pc L st M kc ks ins hi h H locs ls cells slots hP hS hl hk1 hk2
  have hd := hc pc ins hi
  cases ins with
  | aconst_null => exact lv_null hx hb hd (h H locs ls cells slots hP hS hl hk1 hk2)
  | iconst n => exact lv_iconst hx hb hd rfl (h H locs ls cells slots hP hS hl hk1 hk2)
  | lconst n => exact lv_lconst hx hb hd rfl (h H locs ls cells slots hP hS hl hk1 hk2)
  | bipush n => exact lv_bipush hx hb hd rfl (h H locs ls cells slots hP hS hl hk1 hk2)
  | sipush n => exact lv_sipush hx hb hd rfl (h H locs ls cells slots hP hS hl hk1 hk2)
  | ldc i =>
    rcases h with ⟨v, hv, h⟩ | ⟨a, ha, h⟩
    · exact lv_ldc hx hb hown (hci i v hv) hd (h H locs ls cells slots hP hS hl hk1 hk2)
    · obtain ⟨tx, hRm⟩ := hstr i a ha
      have hR := hZ0.2 _ hRm
      exact va_ldcS hx hb hown hR hd (h H locs ls cells slots hP hS hl hk1 hk2)
  | ldc_w i =>
    rcases h with ⟨v, hv, h⟩ | ⟨a, ha, h⟩
    · exact lv_ldcw hx hb hown (hci i v hv) hd (h H locs ls cells slots hP hS hl hk1 hk2)
    · obtain ⟨tx, hRm⟩ := hstr i a ha
      have hR := hZ0.2 _ hRm
      exact pm_ldcwS hx hb hown hR hd (h H locs ls cells slots hP hS hl hk1 hk2)
  | ldc2_w i =>
    obtain ⟨v, hv, h⟩ := pm_opt_of h
    exact lv_ldc2 hx hb hown (hcl i v hv) hd (h H locs ls cells slots hP hS hl hk1 hk2)
  | iload_n i =>
    obtain ⟨v, hv, h⟩ := pm_old_of h
    obtain ⟨x, rfl, h⟩ := pm_isI_of h
    exact lv_iload_n hx hb hd rfl (pm_get_at hl hv) (h H locs ls cells slots hP hS hl hk1 hk2)
  | iload i =>
    obtain ⟨v, hv, h⟩ := pm_old_of h
    obtain ⟨x, rfl, h⟩ := pm_isI_of h
    exact lv_iload hx hb hd (pm_get_at hl hv) (h H locs ls cells slots hP hS hl hk1 hk2)
  | lload_n i =>
    obtain ⟨v, hv, h⟩ := pm_old_of h
    obtain ⟨x, rfl, h⟩ := pm_isL_of h
    exact lv_lload_n hx hb hd rfl (pm_get_at hl hv) (h H locs ls cells slots hP hS hl hk1 hk2)
  | lload i =>
    obtain ⟨v, hv, h⟩ := pm_old_of h
    obtain ⟨x, rfl, h⟩ := pm_isL_of h
    exact lv_lload hx hb hd (pm_get_at hl hv) (h H locs ls cells slots hP hS hl hk1 hk2)
  | aload_n i =>
    obtain ⟨v, hv, h⟩ := pm_old_of h
    obtain ⟨q, rfl, h⟩ := pm_isQ_of h
    cases q with
    | none => exact lv_aload_nN hx hb hd rfl (pm_get_at hl hv) (h H locs ls cells slots hP hS hl hk1 hk2)
    | some a => exact lv_aload_n hx hb hd rfl (pm_get_at hl hv) (h H locs ls cells slots hP hS hl hk1 hk2)
  | aload i =>
    obtain ⟨v, hv, h⟩ := pm_old_of h
    obtain ⟨q, rfl, h⟩ := pm_isQ_of h
    cases q with
    | none => exact lv_aloadN hx hb hd (pm_get_at hl hv) (h H locs ls cells slots hP hS hl hk1 hk2)
    | some a => exact lv_aload hx hb hd (pm_get_at hl hv) (h H locs ls cells slots hP hS hl hk1 hk2)
  | istore_n i =>
    obtain ⟨hn, h⟩ := h
    obtain ⟨x, r, rfl, h⟩ := ps_i_of h
    exact lv_istore_n hx hb hd rfl hl hn rfl (fun ls hl => h H locs ls cells slots hP hS hl hk1 hk2)
  | istore i =>
    obtain ⟨hn, h⟩ := h
    obtain ⟨x, r, rfl, h⟩ := ps_i_of h
    exact lv_istore hx hb hd hl hn rfl (fun ls hl => h H locs ls cells slots hP hS hl hk1 hk2)
  | lstore_n i =>
    obtain ⟨hn, h⟩ := h
    obtain ⟨x, r, rfl, h⟩ := ps_l_of h
    exact lv_lstore_n hx hb hd rfl hl hn rfl (fun ls hl => h H locs ls cells slots hP hS hl hk1 hk2)
  | lstore i =>
    obtain ⟨hn, h⟩ := h
    obtain ⟨x, r, rfl, h⟩ := ps_l_of h
    exact lv_lstore hx hb hd hl hn rfl (fun ls hl => h H locs ls cells slots hP hS hl hk1 hk2)
  | astore_n i =>
    obtain ⟨hn, h⟩ := h
    obtain ⟨q, r, rfl, h⟩ := ps_q_of h
    cases q with
    | none => exact lv_astore_nN hx hb hd rfl hl hn rfl (fun ls hl => h H locs ls cells slots hP hS hl hk1 hk2)
    | some a => exact lv_astore_n hx hb hd rfl hl hn rfl (fun ls hl => h H locs ls cells slots hP hS hl hk1 hk2)
  | astore i =>
    obtain ⟨hn, h⟩ := h
    obtain ⟨q, r, rfl, h⟩ := ps_q_of h
    cases q with
    | none => exact lv_astoreN hx hb hd hl hn rfl (fun ls hl => h H locs ls cells slots hP hS hl hk1 hk2)
    | some a => exact lv_astore hx hb hd hl hn rfl (fun ls hl => h H locs ls cells slots hP hS hl hk1 hk2)
  | iinc i n =>
    obtain ⟨hn, h⟩ := h
    obtain ⟨v, hv, h⟩ := pm_old_of h
    obtain ⟨x, rfl, h⟩ := pm_isI_of h
    obtain ⟨k, hk⟩ := pm_get_k hv
    exact lv_iinc hx hb hd hl hk rfl hn rfl (fun ls hl => h H locs ls cells slots hP hS hl hk1 hk2)
  | iadd => obtain ⟨x, y, r, rfl, h⟩ := ps_ii_of h; exact lv_iadd hx hb hd (h H locs ls cells slots hP hS hl hk1 hk2)
  | isub => obtain ⟨x, y, r, rfl, h⟩ := ps_ii_of h; exact lv_isub hx hb hd (h H locs ls cells slots hP hS hl hk1 hk2)
  | imul => obtain ⟨x, y, r, rfl, h⟩ := ps_ii_of h; exact lv_imul hx hb hd (h H locs ls cells slots hP hS hl hk1 hk2)
  | iand => obtain ⟨x, y, r, rfl, h⟩ := ps_ii_of h; exact lv_iand hx hb hd (h H locs ls cells slots hP hS hl hk1 hk2)
  | ior => obtain ⟨x, y, r, rfl, h⟩ := ps_ii_of h; exact lv_ior hx hb hd (h H locs ls cells slots hP hS hl hk1 hk2)
  | ixor => obtain ⟨x, y, r, rfl, h⟩ := ps_ii_of h; exact lv_ixor hx hb hd (h H locs ls cells slots hP hS hl hk1 hk2)
  | ishl => obtain ⟨x, y, r, rfl, h⟩ := ps_ii_of h; exact lv_ishl hx hb hd (h H locs ls cells slots hP hS hl hk1 hk2)
  | ishr => obtain ⟨x, y, r, rfl, h⟩ := ps_ii_of h; exact lv_ishr hx hb hd (h H locs ls cells slots hP hS hl hk1 hk2)
  | iushr => obtain ⟨x, y, r, rfl, h⟩ := ps_ii_of h; exact lv_iushr hx hb hd rfl (h H locs ls cells slots hP hS hl hk1 hk2)
  | idiv => obtain ⟨x, y, r, rfl, h0, h⟩ := ps_ii_of h; exact lv_idiv hx hb hd h0 (h H locs ls cells slots hP hS hl hk1 hk2)
  | irem => obtain ⟨x, y, r, rfl, h0, h⟩ := ps_ii_of h; exact lv_irem hx hb hd h0 (h H locs ls cells slots hP hS hl hk1 hk2)
  | ineg => obtain ⟨x, r, rfl, h⟩ := ps_i_of h; exact lv_ineg hx hb hd (h H locs ls cells slots hP hS hl hk1 hk2)
  | ladd => obtain ⟨x, y, r, rfl, h⟩ := ps_ll_of h; exact lv_ladd hx hb hd (h H locs ls cells slots hP hS hl hk1 hk2)
  | lsub => obtain ⟨x, y, r, rfl, h⟩ := ps_ll_of h; exact lv_lsub hx hb hd (h H locs ls cells slots hP hS hl hk1 hk2)
  | lmul => obtain ⟨x, y, r, rfl, h⟩ := ps_ll_of h; exact lv_lmul hx hb hd (h H locs ls cells slots hP hS hl hk1 hk2)
  | land => obtain ⟨x, y, r, rfl, h⟩ := ps_ll_of h; exact lv_land hx hb hd (h H locs ls cells slots hP hS hl hk1 hk2)
  | lor => obtain ⟨x, y, r, rfl, h⟩ := ps_ll_of h; exact lv_lor hx hb hd (h H locs ls cells slots hP hS hl hk1 hk2)
  | lxor => obtain ⟨x, y, r, rfl, h⟩ := ps_ll_of h; exact lv_lxor hx hb hd (h H locs ls cells slots hP hS hl hk1 hk2)
  | lrem => obtain ⟨x, y, r, rfl, h0, h⟩ := ps_ll_of h; exact lv_lrem hx hb hd h0 (h H locs ls cells slots hP hS hl hk1 hk2)
  | ldiv => obtain ⟨x, y, r, rfl, h0, h⟩ := ps_ll_of h; exact lv_ldiv hx hb hd h0 (h H locs ls cells slots hP hS hl hk1 hk2)
  | lshr => obtain ⟨x, y, r, rfl, h⟩ := ps_li_of h; exact lv_lshr hx hb hd rfl (h H locs ls cells slots hP hS hl hk1 hk2)
  | lcmp => obtain ⟨x, y, r, rfl, h⟩ := ps_ll_of h; exact W.lcmp hx hb hd (h H locs ls cells slots hP hS hl hk1 hk2)
  | lshl => obtain ⟨x, y, r, rfl, h⟩ := ps_li_of h; exact lv_lshl hx hb hd rfl (h H locs ls cells slots hP hS hl hk1 hk2)
  | lushr => obtain ⟨x, y, r, rfl, h⟩ := ps_li_of h; exact lv_lushr hx hb hd rfl (h H locs ls cells slots hP hS hl hk1 hk2)
  | i2l => obtain ⟨x, r, rfl, h⟩ := ps_i_of h; exact lv_i2l hx hb hd rfl (h H locs ls cells slots hP hS hl hk1 hk2)
  | l2i => obtain ⟨x, r, rfl, h⟩ := ps_l_of h; exact lv_l2i hx hb hd rfl (h H locs ls cells slots hP hS hl hk1 hk2)
  | i2b => obtain ⟨x, r, rfl, h⟩ := ps_i_of h; exact lv_i2b hx hb hd rfl (h H locs ls cells slots hP hS hl hk1 hk2)
  | i2c => obtain ⟨x, r, rfl, h⟩ := ps_i_of h; exact lv_i2c hx hb hd rfl (h H locs ls cells slots hP hS hl hk1 hk2)
  | dup => obtain ⟨v, r, rfl, h1, h⟩ := ps_v_of h; exact lv_dup hx hb hd h1 (h H locs ls cells slots hP hS hl hk1 hk2)
  | dup_x1 =>
    obtain ⟨v, r, rfl, h⟩ := ps_v_of h
    obtain ⟨w, r, rfl, h1, h2, h⟩ := ps_v_of h
    exact lv_dup_x1 hx hb hd h1 h2 (h H locs ls cells slots hP hS hl hk1 hk2)
  | dup2 =>
    obtain ⟨v, r, rfl, h⟩ := ps_v_of h
    obtain ⟨w, r, rfl, h1, h2, h⟩ := ps_v_of h
    exact lv_dup2_11 hx hb hd h1 h2 (h H locs ls cells slots hP hS hl hk1 hk2)
  | pop => obtain ⟨v, r, rfl, h1, h⟩ := ps_v_of h; exact lv_pop hx hb hd h1 (h H locs ls cells slots hP hS hl hk1 hk2)
  | goto off => exact lv_goto hx hb hd (pm_jmp h.1) (h.2 H locs ls cells slots hP hS hl hk1 hk2)
  | ifCond cd off =>
    obtain ⟨hj, h⟩ := h
    obtain ⟨x, r, rfl, ht, hf⟩ := ps_i_of h
    cases cd with
    | eq => exact lv_if_eq hx hb hd (pm_jmp hj) (fun q => ht (q) H locs ls cells slots hP hS hl hk1 hk2) (fun q => hf (q) H locs ls cells slots hP hS hl hk1 hk2)
    | ne => exact lv_if_ne hx hb hd (pm_jmp hj) (fun q => ht (q) H locs ls cells slots hP hS hl hk1 hk2) (fun q => hf (fun z => z q) H locs ls cells slots hP hS hl hk1 hk2)
    | lt => exact lv_if_lt hx hb hd (pm_jmp hj) (fun q => ht (q) H locs ls cells slots hP hS hl hk1 hk2) (fun q => hf (q) H locs ls cells slots hP hS hl hk1 hk2)
    | ge => exact lv_if_ge hx hb hd (pm_jmp hj) (fun q => ht (q) H locs ls cells slots hP hS hl hk1 hk2) (fun q => hf (q) H locs ls cells slots hP hS hl hk1 hk2)
    | gt => exact lv_if_gt hx hb hd (pm_jmp hj) (fun q => ht (q) H locs ls cells slots hP hS hl hk1 hk2) (fun q => hf (q) H locs ls cells slots hP hS hl hk1 hk2)
    | le => exact lv_if_le hx hb hd (pm_jmp hj) (fun q => ht (q) H locs ls cells slots hP hS hl hk1 hk2) (fun q => hf (q) H locs ls cells slots hP hS hl hk1 hk2)
  | if_icmp cd off =>
    obtain ⟨hj, h⟩ := h
    obtain ⟨x, y, r, rfl, ht, hf⟩ := ps_ii_of h
    cases cd with
    | eq => exact lv_icmp_eq hx hb hd (pm_jmp hj) (fun q => ht (q) H locs ls cells slots hP hS hl hk1 hk2) (fun q => hf (q) H locs ls cells slots hP hS hl hk1 hk2)
    | ne => exact lv_icmp_ne hx hb hd (pm_jmp hj) (fun q => ht (q) H locs ls cells slots hP hS hl hk1 hk2) (fun q => hf (fun z => z q) H locs ls cells slots hP hS hl hk1 hk2)
    | lt => exact lv_icmp_lt hx hb hd (pm_jmp hj) (fun q => ht (q) H locs ls cells slots hP hS hl hk1 hk2) (fun q => hf (q) H locs ls cells slots hP hS hl hk1 hk2)
    | ge => exact lv_icmp_ge hx hb hd (pm_jmp hj) (fun q => ht (q) H locs ls cells slots hP hS hl hk1 hk2) (fun q => hf (q) H locs ls cells slots hP hS hl hk1 hk2)
    | gt => exact lv_icmp_gt hx hb hd (pm_jmp hj) (fun q => ht (q) H locs ls cells slots hP hS hl hk1 hk2) (fun q => hf (q) H locs ls cells slots hP hS hl hk1 hk2)
    | le => exact lv_icmp_le hx hb hd (pm_jmp hj) (fun q => ht (q) H locs ls cells slots hP hS hl hk1 hk2) (fun q => hf (q) H locs ls cells slots hP hS hl hk1 hk2)
  | if_acmp cd off =>
    obtain ⟨hj, h⟩ := h
    obtain ⟨y, r1, hst, h1⟩ := ps_q_of h
    subst hst
    obtain ⟨x, r, hr1, ht, hf⟩ := ps_q_of h1
    subst hr1
    cases cd with
    | eq => exact lv_acmp_eq hx hb hd (pm_jmp hj) (fun q => ht (⟨fun _ => q, fun _ => rfl⟩) H locs ls cells slots hP hS hl hk1 hk2) (fun q => hf (fun z => q (z.mp rfl)) H locs ls cells slots hP hS hl hk1 hk2)
    | ne => exact lv_acmp_ne hx hb hd (pm_jmp hj) (fun q => ht ⟨(fun z => by cases z), fun z => (q z).elim⟩ H locs ls cells slots hP hS hl hk1 hk2) (fun q => hf (fun z => by cases z.mpr q) H locs ls cells slots hP hS hl hk1 hk2)
  | ifnull off =>
    obtain ⟨hj, h⟩ := h
    obtain ⟨q, r, rfl, ht, hf⟩ := ps_q_of h
    cases q with
    | none => exact lv_ifnullN hx hb hd (pm_jmp hj) (ht (rfl) H locs ls cells slots hP hS hl hk1 hk2)
    | some a => exact lv_ifnull hx hb hd (hf ((fun z => by cases z)) H locs ls cells slots hP hS hl hk1 hk2)
  | ifnonnull off =>
    obtain ⟨hj, h⟩ := h
    obtain ⟨q, r, rfl, ht, hf⟩ := ps_q_of h
    cases q with
    | none => exact lv_ifnonnullN hx hb hd (hf (rfl) H locs ls cells slots hP hS hl hk1 hk2)
    | some a => exact lv_ifnonnull hx hb hd (pm_jmp hj) (ht ((fun z => by cases z)) H locs ls cells slots hP hS hl hk1 hk2)
  | tableswitch d lo hg offs =>
    obtain ⟨x, r, rfl, ho, hin⟩ := ps_i_of h
    by_cases h1 : x.toInt < lo
    · obtain ⟨hj, h⟩ := ho (Or.inl h1)
      exact lv_tableOut hx hb hd (Or.inl h1) (pm_jmp hj) (h H locs ls cells slots hP hS hl hk1 hk2)
    · by_cases h2 : hg < x.toInt
      · obtain ⟨hj, h⟩ := ho (Or.inr h2)
        exact lv_tableOut hx hb hd (Or.inr h2) (pm_jmp hj) (h H locs ls cells slots hP hS hl hk1 hk2)
      · obtain ⟨off, hoff, hj, h⟩ := pm_opt_of (hin h1 h2)
        exact lv_tableIn hx hb hd h1 h2 hoff (pm_jmp hj) (h H locs ls cells slots hP hS hl hk1 hk2)
  | getfield i =>
    obtain ⟨f, hf, h⟩ := pm_opt_of h
    obtain ⟨a, r, rfl, h⟩ := ps_r_of h
    obtain ⟨fs, hM, h⟩ := pm_ob_of h
    obtain ⟨v, hv, h⟩ := pm_opt_of h
    obtain ⟨C, T, N, ty, Ts, g1, g2, g3, g4, g5, g6, g7, g8, -⟩ := hfld i f hf
    obtain ⟨tys, hK, hP1⟩ := hP.ob hM
    rcases g8 with g8 | ⟨host, g8⟩
    · exact va_get hx hb g3 g4 hown hK hP1 0 rfl g1 f.2.1 g2 g8 (fun _ z => z) hv hd (h H locs ls cells slots hP hS hl hk1 hk2)
    · exact va_getN hx hb g3 g4 hown hK hP1 0 rfl g1 f.2.1 g2 g8 (fun _ z => z) hv hd (h H locs ls cells slots hP hS hl hk1 hk2)
  | putfield i =>
    obtain ⟨f, hf, h⟩ := pm_opt_of h
    obtain ⟨v, r, rfl, h⟩ := ps_v_of h
    obtain ⟨a, r, rfl, h⟩ := ps_r_of h
    obtain ⟨fs, hM, hba, hlen, hn, hfit, hw, h⟩ := pm_ob_of h
    obtain ⟨C, T, N, ty, Ts, g1, g2, g3, g4, g5, g6, g7, g8, g9⟩ := hfld i f hf
    obtain ⟨ws, tys, k, hK, hPw, hD, hk, hq⟩ := hP.atO hM hba
    have fin : ∀ (H1 : Heap) (locs1 : List Loc), va_P D cl (ws.set k (a, .inr (f.1, fs.set f.2.1 v))) H1 → va_D (fun q => base ≤ q) (ws.set k (a, .inr (f.1, fs.set f.2.1 v))) → va_S (fun q => base ≤ q) s.heap H1 locs1 → W p l e R s m args below meth c H1 locs1 cells slots Q (F0 m (pc + 3) ls r) := fun H1 locs1 hP1 hD1 hS1 => h H1 locs1 ls cells slots (pm_P.set hK hq hk hba pm_rel_o hD1 hP1 (pm_low hbs hS hS1)) hS1 hl hk1 hk2
    have g7' : parseFieldDescriptor (T f.2.1).2.2.1 = some f.2.2.1 := by rw [g5 _ g2, g7]
    rcases g9 hw with g9 | ⟨g9, g10, g11, g12⟩
    · rcases g8 with g8 | ⟨host, g8⟩
      · exact va_put hx hb g3 g4 ty g5 g6 hown hK hPw hD hS k hk g1 f.2.1 g2 g8 (fun _ z => z) g9 g7' hn hfit hlen hd fin
      · exact va_putN hx hb g3 g4 ty g5 g6 hown hK hPw hD hS k hk g1 f.2.1 g2 g8 (fun _ z => z) g9 g7' hn hfit hlen hd fin
    · exact va_putF hx hb g3 g4 ty g5 g6 hown hK hPw hD hS k hk g1 f.2.1 g2 g12 (fun _ z => z) g9 g10 g11 g7' hn hfit hlen hd fin
  | getstatic i =>
    obtain ⟨v, hv, h⟩ := pm_opt_of h
    obtain ⟨C, nm, ds, hZm, g8⟩ := hsta i v hv
    have hZ := hZ0.1 _ hZm
    rcases g8 with g8 | ⟨host, g8⟩
    · exact va_gets hx hb hZ hS hown g8 (fun _ z => z) hd (h H locs ls cells slots hP hS hl hk1 hk2)
    · exact va_getsN hx hb hZ hS hown g8 (fun _ z => z) hd (h H locs ls cells slots hP hS hl hk1 hk2)
  | arraylength =>
    obtain ⟨a, r, rfl, h⟩ := ps_r_of h
    obtain ⟨ty, N, x, hM, h⟩ := pm_al_len h
    exact pm_rdn hx hb hP hM hd (h H locs ls cells slots hP hS hl hk1 hk2)
  | iaload =>
    obtain ⟨i, r, rfl, h⟩ := ps_i_of h
    obtain ⟨a, r, rfl, h⟩ := ps_r_of h
    obtain ⟨ty, n, f, hM, hty, hin, h⟩ := pm_ai_of h
    cases ty with
    | int => exact pm_rdi hx hb hP hM hin hd (h H locs ls cells slots hP hS hl hk1 hk2)
    | _ => cases hty
  | baload =>
    obtain ⟨i, r, rfl, h⟩ := ps_i_of h
    obtain ⟨a, r, rfl, h⟩ := ps_r_of h
    obtain ⟨ty, n, f, hM, hty, hin, h⟩ := pm_ai_of h
    cases ty with
    | byte => exact pm_rdb hx hb hP hM hin hd (h H locs ls cells slots hP hS hl hk1 hk2)
    | boolean => exact pm_rdz hx hb hP hM hin hd (h H locs ls cells slots hP hS hl hk1 hk2)
    | _ => cases hty
  | caload =>
    obtain ⟨i, r, rfl, h⟩ := ps_i_of h
    obtain ⟨a, r, rfl, h⟩ := ps_r_of h
    obtain ⟨ty, N, f, hM, hty, hin, h⟩ := pm_ai_of h
    cases ty with
    | char => exact pm_rdc hx hb hP hM hin hd (h H locs ls cells slots hP hS hl hk1 hk2)
    | _ => cases hty
  | laload =>
    obtain ⟨i, r, rfl, h⟩ := ps_i_of h
    obtain ⟨a, r, rfl, h⟩ := ps_r_of h
    obtain ⟨N, f, hM, hin, h⟩ := pm_al_of h
    obtain ⟨ws, tys, k, t, cA, hK, hPw, hD, hk, ht, hq⟩ := hP.wl hM
    exact va_lald hx hb hK hPw k t hk ht hin hd (h H locs ls cells slots hP hS hl hk1 hk2)
  | aaload =>
    obtain ⟨i, r, rfl, h⟩ := ps_i_of h
    obtain ⟨a, r, rfl, h⟩ := ps_r_of h
    obtain ⟨C, N, f, hM, hin, h⟩ := pm_aq_of h
    obtain ⟨ws, tys, k, t, cA, hK, hPw, hD, hk, ht, hq⟩ := hP.wl hM
    exact va_aldq hx hb hK hPw k t hk ht hin hd (h H locs ls cells slots hP hS hl hk1 hk2)
  | iastore =>
    obtain ⟨i, x, r, rfl, h⟩ := ps_ii_of h
    obtain ⟨a, r, rfl, h⟩ := ps_r_of h
    obtain ⟨ty, N, f, hM, hty, hba, hin, h⟩ := pm_ai_of h
    obtain ⟨ws, tys, k, t, cA, hK, hPw, hD, hk, ht, hq⟩ := hP.at hM hba
    cases ty with
    | int => exact va_iast hx hb hK hPw hD hS k t hk ht hin hd (fun H1 locs1 hP1 hD1 hS1 => h H1 locs1 ls cells slots (pm_P.set hK hq hk hba (pm_rel_a ht) hD1 hP1 (pm_low hbs hS hS1)) hS1 hl hk1 hk2)
    | _ => cases hty
  | bastore =>
    obtain ⟨i, x, r, rfl, h⟩ := ps_ii_of h
    obtain ⟨a, r, rfl, h⟩ := ps_r_of h
    obtain ⟨ty, N, f, hM, hty, hba, hin, h⟩ := pm_ai_of h
    obtain ⟨ws, tys, k, t, cA, hK, hPw, hD, hk, ht, hq⟩ := hP.at hM hba
    cases ty with
    | byte => exact va_bast hx hb hK hPw hD hS k t hk ht hin hd (fun H1 locs1 hP1 hD1 hS1 => h H1 locs1 ls cells slots (pm_P.set hK hq hk hba (pm_rel_a ht) hD1 hP1 (pm_low hbs hS hS1)) hS1 hl hk1 hk2)
    | boolean => exact va_zast hx hb hK hPw hD hS k t hk ht hin hd (fun H1 locs1 hP1 hD1 hS1 => h H1 locs1 ls cells slots (pm_P.set hK hq hk hba (pm_rel_a ht) hD1 hP1 (pm_low hbs hS hS1)) hS1 hl hk1 hk2)
    | _ => cases hty
  | castore =>
    obtain ⟨i, x, r, rfl, h⟩ := ps_ii_of h
    obtain ⟨a, r, rfl, h⟩ := ps_r_of h
    obtain ⟨ty, N, f, hM, hty, hba, hin, h⟩ := pm_ai_of h
    obtain ⟨ws, tys, k, t, cA, hK, hPw, hD, hk, ht, hq⟩ := hP.at hM hba
    cases ty with
    | char => exact va_cast hx hb hK hPw hD hS k t hk ht hin hd (fun H1 locs1 hP1 hD1 hS1 => h H1 locs1 ls cells slots (pm_P.set hK hq hk hba (pm_rel_a ht) hD1 hP1 (pm_low hbs hS hS1)) hS1 hl hk1 hk2)
    | _ => cases hty
  | lastore =>
    obtain ⟨x, r, rfl, h⟩ := ps_l_of h
    obtain ⟨i, r, rfl, h⟩ := ps_i_of h
    obtain ⟨a, r, rfl, h⟩ := ps_r_of h
    obtain ⟨N, f, hM, hba, hin, h⟩ := pm_al_of h
    obtain ⟨ws, tys, k, t, cA, hK, hPw, hD, hk, ht, hq⟩ := hP.at hM hba
    exact va_last hx hb hK hPw hD hS k t hk ht hin hd (fun H1 locs1 hP1 hD1 hS1 => h H1 locs1 ls cells slots (pm_P.set hK hq hk hba (pm_rel_a ht) hD1 hP1 (pm_low hbs hS hS1)) hS1 hl hk1 hk2)
  | aastore =>
    unfold pm_ins at h
    dsimp only at h
    obtain ⟨q, r1, hst, h1⟩ := ps_q_of h
    subst hst
    obtain ⟨i, r2, hr1, h2⟩ := ps_i_of (st := r1) h1
    subst hr1
    obtain ⟨a, r, hr2, h3⟩ := ps_r_of (st := r2) h2
    subst hr2
    clear h
    obtain ⟨C, N, f, hM, hba, hin, hv, h⟩ := pm_aq_of h3
    obtain ⟨ws, tys, k, t, cA, hK, hPw, hD, hk, ht, hq⟩ := hP.at hM hba
    cases q with
    | none => exact va_astqN hx hb hK hPw hD hS k t hk ht hin hd (fun H1 locs1 hP1 hD1 hS1 => h H1 locs1 ls cells slots (pm_P.set hK hq hk hba (pm_rel_a ht) hD1 hP1 (pm_low hbs hS hS1)) hS1 hl hk1 hk2)
    | some b =>
      obtain ⟨hbb, ci, w, fs, hMb, hw, rfl⟩ := hv b rfl
      rcases hq b _ hMb with ⟨-, kb, vb, hkb, hvb⟩ | ⟨z, -⟩
      · cases vb with
        | inl y => exact hvb.elim
        | inr o =>
          have eo : (ci, fs) = o := hvb
          subst eo
          exact va_astq hx hb hK hPw hD hS k t kb ci hk ht hkb hw hin hd (fun H1 locs1 hP1 hD1 hS1 => h H1 locs1 ls cells slots (pm_P.set hK hq hk hba (pm_rel_a ht) hD1 hP1 (pm_low hbs hS hS1)) hS1 hl hk1 hk2)
      · omega
  | new i =>
    obtain ⟨o, ho, g1, g2, h⟩ := pm_opt_of h
    obtain ⟨C, T, ty, Ts, f1, f2, f3, f4, f5, f6, f7, f8⟩ := hmk i o ho
    obtain ⟨ws, tys, hK, hPw, hD, hq⟩ := hP
    refine va_new hx hb f2 f3 ty f4 hown f5 f6 f7 hK hPw hD hS hA f1 f8 (by omega) (by omega) hd (fun q H1 hP1 hD1 hS1 => ?_)
    obtain ⟨n1, n2, hP2⟩ := pm_P.push (t2 := []) (e := .inr o) (by rw [List.append_nil]; exact hK) hq pm_rel_o hD1 hP1 (pm_low hbs hS hS1)
    exact (h q n1 n2) H1 locs ls _ _ hP2 hS1 hl (by omega) (by omega)
  | newarray t =>
    obtain ⟨gt, h⟩ := h
    obtain ⟨N, r, rfl, g0, g1, g2, g3, h⟩ := ps_i_of h
    obtain ⟨ws, tys, hK, hPw, hD, hq⟩ := hP
    refine va_newa (ty := newarray.typeOf t) (a0 := (N.toNatClampNeg, pm_zero t)) hx hb (hnar t gt) rfl hK hPw hD hS hA (fun cA => by cases t <;> rfl) g0 rfl (pm_bytes t g1) (by omega) (by omega) hd (fun q cA H1 hK1 hP1 hD1 hS1 => ?_)
    obtain ⟨n1, n2, hP2⟩ := pm_P.push (t2 := [(cA, newarray.typeOf t)]) (e := .inl (newarray.typeOf t, N.toNatClampNeg, pm_zero t)) hK1 hq (pm_rel_a (t := tys.length) (by simp)) hD1 hP1 (pm_low hbs hS hS1)
    exact (h q n1 n2) H1 locs ls _ _ hP2 hS1 hl (by omega) (by omega)
  | anewarray i =>
    obtain ⟨C, hC, h⟩ := pm_opt_of h
    obtain ⟨N, r, rfl, g0, g1, g2, g3, h⟩ := ps_i_of h
    obtain ⟨a1, a2⟩ := harr i C hC
    obtain ⟨ws, tys, hK, hPw, hD, hq⟩ := hP
    refine va_newq hx hb hown a1 a2 hK hPw hD hS hA g0 rfl (by omega) (by omega) (by omega) hd (fun q cA H1 hK1 hP1 hD1 hS1 => ?_)
    obtain ⟨n1, n2, hP2⟩ := pm_P.push (t2 := [(cA, .object C)]) (e := .inl (.object C, N.toNatClampNeg, .inr (.inr (.inr (.inr fun _ => none))))) hK1 hq (pm_rel_a (t := tys.length) (by simp)) hD1 hP1 (pm_low hbs hS hS1)
    exact (h q n1 n2) H1 locs ls _ _ hP2 hS1 hl (by omega) (by omega)
  | invokevirtual i =>
    obtain ⟨⟨yk, yn, yT⟩, hy, rfl, g1, g2, mc', ms', g3, g4, h⟩ := pm_opt_of h
    have hr := hcal i _ hy Q pc ls (st.take yn).reverse (st.drop yn) M mc' ms' cells slots _ H locs hd (by rw [List.length_reverse, List.length_take]; exact Nat.min_eq_left g1) g2 hl.1 (by omega) (by omega) hP hS h (fun v M1 H1 locs1 hRt hP1 hS1 => hRt H1 locs1 ls _ _ hP1 hS1 hl (by omega) (by omega))
    rw [List.reverse_reverse, List.take_append_drop] at hr
    exact hr
  | invokespecial i =>
    obtain ⟨⟨yk, yn, yT⟩, hy, rfl, g1, g2, mc', ms', g3, g4, h⟩ := pm_opt_of h
    have hr := hcal i _ hy Q pc ls (st.take yn).reverse (st.drop yn) M mc' ms' cells slots _ H locs hd (by rw [List.length_reverse, List.length_take]; exact Nat.min_eq_left g1) g2 hl.1 (by omega) (by omega) hP hS h (fun v M1 H1 locs1 hRt hP1 hS1 => hRt H1 locs1 ls _ _ hP1 hS1 hl (by omega) (by omega))
    rw [List.reverse_reverse, List.take_append_drop] at hr
    exact hr
  | invokestatic i =>
    obtain ⟨⟨yk, yn, yT⟩, hy, rfl, g1, g2, mc', ms', g3, g4, h⟩ := pm_opt_of h
    have hr := hcal i _ hy Q pc ls (st.take yn).reverse (st.drop yn) M mc' ms' cells slots _ H locs hd (by rw [List.length_reverse, List.length_take]; exact Nat.min_eq_left g1) g2 hl.1 (by omega) (by omega) hP hS h (fun v M1 H1 locs1 hRt hP1 hS1 => hRt H1 locs1 ls _ _ hP1 hS1 hl (by omega) (by omega))
    rw [List.reverse_reverse, List.take_append_drop] at hr
    exact hr
  | ireturn =>
    obtain ⟨x, ty, rfl, g1, g2, h⟩ := h
    exact hret _ _ _ pc M H locs ls cells slots hd (Or.inl ⟨x, ty, rfl, rfl, rfl, g1, g2⟩) h hP hS (by omega) (by omega)
  | lreturn =>
    obtain ⟨x, rfl, g1, h⟩ := h
    exact hret _ _ _ pc M H locs ls cells slots hd (Or.inr (Or.inl ⟨x, rfl, rfl, rfl, g1⟩)) h hP hS (by omega) (by omega)
  | areturn =>
    obtain ⟨q, ty, rfl, g1, g2, h⟩ := h
    exact hret _ _ _ pc M H locs ls cells slots hd (Or.inr (Or.inr (Or.inl ⟨q, ty, rfl, rfl, rfl, g1, g2⟩))) h hP hS (by omega) (by omega)
  | return_ =>
    obtain ⟨rfl, g1, h⟩ := h
    exact hret _ _ _ pc M H locs ls cells slots hd (Or.inr (Or.inr (Or.inr ⟨rfl, rfl, rfl, g1⟩))) h hP hS (by omega) (by omega)
  | _ => exact False.elim h
end Main
end
section
section Mets
variable {l : Launch} {D : va_G} {cl : List vw_C} {base : Nat} {Z : pmZ}
/-- a body's contract out of its walk over pictures -/
abbrev pm_Met (l : Launch) (D : va_G) (cl : List vw_C) (base : Nat) (Z : pmZ) (y : MethodName) (ws : List Cond) (fr lo : Nat) (T : pmT) : Prop := ∀ (As : List Value) (M : pmM) (mc ms : Nat) (Rt : Option Value → pmM → Prop), T As M mc ms Rt → Met l y ws { frames := fr, cells := mc, slots := ms, locals := lo } (va_Pc As (fun U => base ≤ U.heap.size ∧ pm_P D cl base M U U.heap ∧ pm_Z base Z U U.heap)) (fun _ => pm_Qc D cl base Rt) mc ms (fun q => base ≤ q)
set_option maxHeartbeats 4000000 in
theorem pm_met {y : MethodName} {ws ws' : List Cond} {cc : ByteArray} {ret : Option FieldType} {fr lo : Nat} {X : pmX} (hy : plainName y.cls = true) (hw : ws = Cond.code y cc X.nL ret :: ws') (hX : X.ret = ret)
    (hok : ∀ (mc ms : Nat) (p : Program) (e : Env) (s : State) (m : MethodId) (args : Array Value) (below : List Frame) (meth : Method) (c : Code), p.tables.exec = Jvm.exec → c.code = cc → c.maxLocals = X.nL → s.vm.findClass y.cls = some m.cls → meth.name = y.name → (∀ w ∈ ws, w.before args s = true) → base ≤ s.heap.size → pm_Z base Z s s.heap → pm_ok D cl base Z p l e { frames := fr, cells := mc, slots := ms, locals := lo } s m args below meth c y.cls cc X) :
    pm_Met l D cl base Z y ws fr lo (pm_mt cl base X) := by
  intro As M mc ms Rt hT
  obtain ⟨hlen, h⟩ := hT
  refine Met.ofW (cc := cc) (maxL := X.nL) (ret := ret) hy hw ?_
  intro p e s m args below meth c s₁ B hml hv
  obtain ⟨rfl, hbs, hP, hZ⟩ := hv
  have hx := B.exec
  have hb := B.bytes
  have hr := B.returns
  have hts := atoms_spec (ws := ws) B.pre
  have hown : s.vm.findClass y.cls = some m.cls := findClass_of_methodNamed B.named
  have hlocks := B.notSynchronized
  have hnm : meth.name = y.name := (name_of_methodNamed B.named B.method).1
  have C0 := hok mc ms p e s m As.toArray below meth c hx hb hml hown hnm hts hbs hZ
  have hl := lv_entry As (n := X.nL) hlen
  rw [lg_entry_eq]
  refine h _ (pm_sound (Q := MQ below (fun _ => pm_Qc D cl base Rt) As.toArray s mc ms (fun q => base ≤ q)) (mc := mc) (ms := ms) C0 (Nat.le_refl _) (Nat.le_refl _) ?_) s.heap [] _ 0 0 hP va_S.rf hl (by omega) (by omega)
  intro ins v st pc M H locs ls cells slots hdg hcase hRt hP hS hc hs
  have hq : ∀ t : State, t.heap = H → s.WarmedH t.vm → pm_Qc D cl base Rt s (.returned v) t := fun t ht hW => ⟨v, M, rfl, hRt, by rw [ht]; exact hP.moved hW.alike, by rw [ht]; exact hS.1, fun q h1 h2 => by rw [ht]; exact hS.2.1 q h1 h2⟩
  refine W.widen hc hs ?_
  rcases hcase with ⟨x, ty, rfl, rfl, rfl, g1, g2⟩ | ⟨x, rfl, rfl, rfl, g1⟩ | ⟨q, ty, rfl, rfl, rfl, g1, g2⟩ | ⟨rfl, rfl, rfl, g1⟩
  · exact W.zret hx hb (hr.trans (hX ▸ g1)) g2 hq hS.2.2 hdg
  · exact W.lret hx hb (hr.trans (hX ▸ g1)) hq hS.2.2 hdg
  · exact W.aret hx hb (hr.trans (hX ▸ g1)) (by cases ty <;> first | exact Or.inl ⟨_, rfl⟩ | exact Or.inr ⟨_, rfl⟩ | cases g2) (by cases q <;> first | exact Or.inl rfl | exact Or.inr ⟨_, rfl⟩) hq hS.2.2 hdg
  · exact W.vret hx hb (hr.trans (hX ▸ g1)) hq hS.2.2 hdg
end Mets
section Calls2
variable {p : Program} {l : Launch} {e : Env} {R : Room} {s : State} {m : MethodId} {args : Array Value} {below : List Frame} {meth : Method} {c : Code} {cc : ByteArray} {D : va_G} {cl : List vw_C} {base : Nat} {Z : pmZ} {own : String} {Ts ws : List Cond} {y : MethodName} {bytes : ByteArray} {maxL nL fr lo n i : Nat} {ret : Option FieldType} {T : pmT}
/-- the receiver is there, of its kind -/
def pm_rcv (ci : Nat) (T : pmT) : pmT := fun As M mc ms Rt => ∃ (b : Nat) (As' : List Value) (fs : List Value), As = .ref b :: As' ∧ M b = some (.inr (ci, fs)) ∧ T As M mc ms Rt
theorem pm_pre {As : List Value} {M : pmM} {H : Heap} {locs : List Loc} (hP : pm_P D cl base M s H) (hbs : base ≤ s.heap.size) (hZ : pm_Z base Z s s.heap) (hS : va_S (fun q => base ≤ q) s.heap H locs) : FrameBlind (va_Pc As (fun U => base ≤ U.heap.size ∧ pm_P D cl base M U U.heap ∧ pm_Z base Z U U.heap)) ∧ ∀ U : State, U.heap = H → s.WarmedH U.vm → va_Pc As (fun U => base ≤ U.heap.size ∧ pm_P D cl base M U U.heap ∧ pm_Z base Z U U.heap) As.toArray U := by
  refine ⟨fun a U g mk q => ?_, fun U hU hW => ⟨rfl, ?_, ?_, hZ.warm hS hU hW⟩⟩
  · obtain ⟨q0, q1, q2, q3⟩ := q
    exact ⟨q0, q1, pm_P.moved (u := U) (U := U.calling g mk a) (Vm.Alike.refl U.vm) q2, fun z hz => va_Z.moved (u := U) (U := U.calling g mk a) (Vm.Alike.refl U.vm) (q3.1 z hz), fun z hz => vk_R.same rfl (q3.2 z hz)⟩
  · rw [hU]
    exact Nat.le_trans hbs hS.1
  · rw [hU]
    exact hP.moved hW.alike
theorem pm_cokV (hbs : base ≤ s.heap.size) (hZ : pm_Z base Z s s.heap) (S : CallFix p m c cc nL s args Ts own) {C : String} (hM : pm_Met l D cl base Z y ws fr lo T) (cw : ∀ mc ms, CallW R s args own C i y bytes maxL ret ws { frames := fr, cells := mc, slots := ms, locals := lo } mc ms n) {ci N : Nat} {F : u_T} (hc : cl[ci]? = some (C, F, N)) : pm_cok D cl base p l e R s m args below meth c nL cc i (0, n + 1, pm_rcv ci T) := by
  intro Q pc ls As rest M mc ms cells slots Rt H locs hdg hn hw hls hk1 hk2 hP hS hT kk
  obtain ⟨b, As', fs, rfl, hMb, hT⟩ := hT
  obtain ⟨tys, hK, hP1⟩ := hP.ob hMb
  have hp := pm_pre (As := .ref b :: As') hP hbs hZ hS
  refine pm_call (Q := Q) ?_ hS kk
  rw [List.reverse_cons, List.append_assoc]
  exact va_runV (g := F0 m pc ls _) S (hM _ _ mc ms Rt hT) (cw mc ms) ⟨hp.1, va_recv hK hP1 hc (q0 := 0) rfl, hp.2⟩ rfl (by simpa using hn) hls rfl (lv_room hw) hdg ⟨hk1, hk2⟩
theorem pm_cokVN (hbs : base ≤ s.heap.size) (hZ : pm_Z base Z s s.heap) (S : CallFix p m c cc nL s args Ts own) {C host : String} (hM : pm_Met l D cl base Z y ws fr lo T) (cw : ∀ mc ms, va_CN R s args own i y host bytes maxL ret ws { frames := fr, cells := mc, slots := ms, locals := lo } mc ms n ∧ (Cond.instanceMethod y).before args s = true ∧ (Cond.selects C y y).before args s = true) {ci N : Nat} {F : u_T} (hc : cl[ci]? = some (C, F, N)) : pm_cok D cl base p l e R s m args below meth c nL cc i (0, n + 1, pm_rcv ci T) := by
  intro Q pc ls As rest M mc ms cells slots Rt H locs hdg hn hw hls hk1 hk2 hP hS hT kk
  obtain ⟨b, As', fs, rfl, hMb, hT⟩ := hT
  obtain ⟨tys, hK, hP1⟩ := hP.ob hMb
  have hp := pm_pre (As := .ref b :: As') hP hbs hZ hS
  refine pm_call (Q := Q) ?_ hS kk
  rw [List.reverse_cons, List.append_assoc]
  exact va_runVN (g := F0 m pc ls _) S (hM _ _ mc ms Rt hT) (cw mc ms) ⟨hp.1, va_recv hK hP1 hc (q0 := 0) rfl, hp.2⟩ rfl (by simpa using hn) hls rfl (lv_room hw) hdg ⟨hk1, hk2⟩
theorem pm_cokI (hbs : base ≤ s.heap.size) (hZ : pm_Z base Z s s.heap) (S : CallFix p m c cc nL s args Ts own) (hM : pm_Met l D cl base Z y ws fr lo T) (cw : ∀ mc ms, CallB R s args own i y bytes maxL none ws { frames := fr, cells := mc, slots := ms, locals := lo } mc ms n ∧ y.name = "<init>" ∧ (Cond.instanceMethod y).before args s = true) {ci : Nat} : pm_cok D cl base p l e R s m args below meth c nL cc i (1, n + 1, pm_rcv ci T) := by
  intro Q pc ls As rest M mc ms cells slots Rt H locs hdg hn hw hls hk1 hk2 hP hS hT kk
  obtain ⟨b, As', fs, rfl, hMb, hT⟩ := hT
  have hp := pm_pre (As := .ref b :: As') hP hbs hZ hS
  refine pm_call (Q := Q) ?_ hS kk
  rw [List.reverse_cons, List.append_assoc]
  exact va_runI (g := F0 m pc ls _) S (hM _ _ mc ms Rt hT) (cw mc ms) hp rfl (by simpa using hn) hls rfl (lv_room hw) hdg ⟨hk1, hk2⟩
theorem pm_cokIN (hbs : base ≤ s.heap.size) (hZ : pm_Z base Z s s.heap) (S : CallFix p m c cc nL s args Ts own) {host : String} (hM : pm_Met l D cl base Z y ws fr lo T) (cw : ∀ mc ms, va_CN R s args own i y host bytes maxL none ws { frames := fr, cells := mc, slots := ms, locals := lo } mc ms n ∧ y.name = "<init>" ∧ (Cond.instanceMethod y).before args s = true) {ci : Nat} : pm_cok D cl base p l e R s m args below meth c nL cc i (1, n + 1, pm_rcv ci T) := by
  intro Q pc ls As rest M mc ms cells slots Rt H locs hdg hn hw hls hk1 hk2 hP hS hT kk
  obtain ⟨b, As', fs, rfl, hMb, hT⟩ := hT
  have hp := pm_pre (As := .ref b :: As') hP hbs hZ hS
  refine pm_call (Q := Q) ?_ hS kk
  rw [List.reverse_cons, List.append_assoc]
  exact va_runIN (g := F0 m pc ls _) S (hM _ _ mc ms Rt hT) (cw mc ms) hp rfl (by simpa using hn) hls rfl (lv_room hw) hdg ⟨hk1, hk2⟩
theorem pm_cokS (hbs : base ≤ s.heap.size) (hZ : pm_Z base Z s s.heap) (S : CallFix p m c cc nL s args Ts own) (hM : pm_Met l D cl base Z y ws fr lo T) (cw : ∀ mc ms, CallB R s args own i y bytes maxL ret ws { frames := fr, cells := mc, slots := ms, locals := lo } mc ms n ∧ (Cond.static y).before args s = true) : pm_cok D cl base p l e R s m args below meth c nL cc i (2, n, T) := by
  intro Q pc ls As rest M mc ms cells slots Rt H locs hdg hn hw hls hk1 hk2 hP hS hT kk
  have hp := pm_pre (As := As) hP hbs hZ hS
  refine pm_call (Q := Q) ?_ hS kk
  exact va_runS (g := F0 m pc ls _) S (hM _ _ mc ms Rt hT) (cw mc ms) hp rfl hn hls rfl (lv_room hw) hdg ⟨hk1, hk2⟩
theorem pm_cokSN (hbs : base ≤ s.heap.size) (hZ : pm_Z base Z s s.heap) (S : CallFix p m c cc nL s args Ts own) {host : String} (hM : pm_Met l D cl base Z y ws fr lo T) (cw : ∀ mc ms, va_CN R s args own i y host bytes maxL ret ws { frames := fr, cells := mc, slots := ms, locals := lo } mc ms n ∧ (Cond.static y).before args s = true ∧ True) : pm_cok D cl base p l e R s m args below meth c nL cc i (2, n, T) := by
  intro Q pc ls As rest M mc ms cells slots Rt H locs hdg hn hw hls hk1 hk2 hP hS hT kk
  have hp := pm_pre (As := As) hP hbs hZ hS
  refine pm_call (Q := Q) ?_ hS kk
  exact va_runSN (g := F0 m pc ls _) S (hM _ _ mc ms Rt hT) (cw mc ms) hp rfl hn hls rfl (lv_room hw) hdg ⟨hk1, hk2⟩
/-- Object's own start: nothing -/
def pm_oi : pmT := fun As M _ _ Rt => ∃ b : Nat, As = [.ref b] ∧ Rt none M
theorem pm_cokO (hx : p.tables.exec = Jvm.exec) (hb : c.code = cc) (hml : c.maxLocals = nL) (hown : s.vm.findClass own = some m.cls) (hlink : (Cond.methodLink own i Lib.objectInit).before args s = true) (hinst : (Cond.instanceMethod Lib.objectInit).before args s = true) (hcode : (Cond.code Lib.objectInit ⟨#[0xb1]⟩ 1 none).before args s = true) (hf : 1 ≤ R.frames) (hlo : 20 ≤ R.locals) : pm_cok D cl base p l e R s m args below meth c nL cc i (1, 1, pm_oi) := by
  intro Q pc ls As rest M mc ms cells slots Rt H locs hdg hn hw hls hk1 hk2 hP hS hT kk
  obtain ⟨b, rfl, hT⟩ := hT
  have hr : 2 * (F0 m pc ls (.ref b :: rest)).monitorRoom + (rest.map fun v => v.category).sum ≤ 8 := lv_room hw
  exact W.objInit hx hb hown hlink hinst hcode (g := F0 m pc ls (.ref b :: rest)) rfl (by rw [hml]; exact hls) rfl hdg hf (by omega) (W.widen (Nat.le_add_right _ _) (Nat.le_add_right _ _) (kk none M H locs hT hP hS))
end Calls2
end
