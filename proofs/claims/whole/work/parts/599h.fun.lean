/-! The model as functions: loops, reading and writing that may fail; a judgement that holds the walk and the function side by side. -/
section Lp
variable {α β : Type}
/-- a loop, n rounds at most -/
def lpN (f : α → Option (α ⊕ β)) : Nat → α → Option β
  | 0, _ => none
  | n + 1, x => match f x with
    | none => none
    | some (.inl y) => lpN f n y
    | some (.inr b) => some b
theorem lpN_le {f : α → Option (α ⊕ β)} : ∀ {n k : Nat} {x : α} {b : β}, lpN f n x = some b → n ≤ k → lpN f k x = some b := by
  intro n
  induction n with
  | zero => intro k x b h; cases h
  | succ n ih =>
    intro k x b h hk
    obtain ⟨j, rfl⟩ : ∃ j, k = j + 1 := ⟨k - 1, by omega⟩
    unfold lpN at h ⊢
    cases hf : f x with
    | none => rw [hf] at h; cases h
    | some y =>
      rw [hf] at h
      cases y with
      | inl y => exact ih h (by omega)
      | inr c => exact h
/-- a loop, to its end (none: it has no end, or a step of it fails) -/
noncomputable def lp (f : α → Option (α ⊕ β)) (x : α) : Option β := @dite _ (∃ b, ∃ n, lpN f n x = some b) (Classical.propDecidable _) (fun h => some h.choose) (fun _ => none)
theorem lp_of {f : α → Option (α ⊕ β)} {x : α} {z : β} (h : lp f x = some z) : ∃ n, lpN f n x = some z := by
  unfold lp at h
  by_cases he : ∃ b, ∃ n, lpN f n x = some b
  · rw [dif_pos he] at h
    injection h with h
    rw [← h]
    exact he.choose_spec
  · rw [dif_neg he] at h
    cases h
theorem lp_to {f : α → Option (α ⊕ β)} {x : α} {z : β} {n : Nat} (h : lpN f n x = some z) : lp f x = some z := by
  have he : ∃ b, ∃ n, lpN f n x = some b := ⟨z, n, h⟩
  unfold lp
  rw [dif_pos he]
  obtain ⟨k, hk⟩ := he.choose_spec
  have h1 := lpN_le h (Nat.le_max_left n k)
  have h2 := lpN_le hk (Nat.le_max_right n k)
  rw [h1] at h2
  exact h2.symm
/-- a loop is its first step and the rest -/
theorem lp_eq (f : α → Option (α ⊕ β)) (x : α) : lp f x = (f x).bind (Sum.elim (lp f) some) := by
  apply Option.ext
  intro z
  constructor
  · intro h
    obtain ⟨n, hn⟩ := lp_of h
    cases n with
    | zero => cases hn
    | succ n =>
      unfold lpN at hn
      cases hf : f x with
      | none => rw [hf] at hn; cases hn
      | some y =>
        rw [hf] at hn
        cases y with
        | inl y => exact lp_to (n := n) hn
        | inr c => exact hn
  · intro h
    cases hf : f x with
    | none => rw [hf] at h; cases h
    | some y =>
      rw [hf] at h
      cases y with
      | inl y =>
        obtain ⟨n, hn⟩ := lp_of (f := f) (x := y) h
        refine lp_to (n := n + 1) ?_
        unfold lpN
        rw [hf]
        exact hn
      | inr c =>
        refine lp_to (n := 1) ?_
        unfold lpN
        rw [hf]
        exact h
/-- what a step's answer says of the loop's -/
def lpC (f : α → Option (α ⊕ β)) (n : Nat) (z : β) : α ⊕ β → Prop
  | .inl x => lpN f n x = some z
  | .inr b => b = z
theorem lpN_s {f : α → Option (α ⊕ β)} {n : Nat} {x : α} {z : β} (h : lpN f (n + 1) x = some z) : ∃ y, f x = some y ∧ lpC f n z y := by
  unfold lpN at h
  cases hf : f x with
  | none => rw [hf] at h; cases h
  | some y =>
    rw [hf] at h
    refine ⟨y, rfl, ?_⟩
    cases y with
    | inl y => exact h
    | inr c => exact Option.some.inj h
/-- behind the loop -/
def xo (o : Option β) : Option (α ⊕ β) := o.map .inr
end Lp
def letS {α β : Type} (a : α) (f : α → β) : β := f a
def bn2 {α β γ : Type} (o : Option (α × γ)) (f : α → γ → Option β) : Option β := o.bind fun p => f p.1 p.2
/-- a truth that is 0 or 1 -/
def okZ {β : Type} (x : Int32) (e : Option β) : Option β := if x = 0 ∨ x = 1 then e else none
/-- a division by y may be -/
def nz {β : Type} (y : Int32) (e : Option β) : Option β := if y = 0 then none else e
def nzL {β : Type} (y : Int64) (e : Option β) : Option β := if y = 0 then none else e
def rdI (t : moS) (k : Nat) (i : Int32) : Option Int32 := if i < 0 ∨ t.N k ≤ i.toNatClampNeg then none else some (t.I k i.toNatClampNeg)
def rdJ (t : moS) (k : Nat) (i : Int32) : Option Int64 := if i < 0 ∨ t.N k ≤ i.toNatClampNeg then none else some (t.J k i.toNatClampNeg)
def wrI (t : moS) (k : Nat) (i v : Int32) : Option moS := if i < 0 ∨ t.N k ≤ i.toNatClampNeg then none else some (moSI t k i.toNatClampNeg v)
def wrZ (t : moS) (k : Nat) (i v : Int32) : Option moS := if i < 0 ∨ t.N k ≤ i.toNatClampNeg then none else some (moSI t k i.toNatClampNeg (vp_nar .boolean v))
def wrJ (t : moS) (k : Nat) (i : Int32) (v : Int64) : Option moS := if i < 0 ∨ t.N k ≤ i.toNatClampNeg then none else some (moSJ t k i.toNatClampNeg v)
theorem ob_of {α β : Type} {o : Option α} {f : α → Option β} {z : β} (h : o.bind f = some z) : ∃ y, o = some y ∧ f y = some z := Option.bind_eq_some_iff.mp h
theorem ob2_of {α β γ : Type} {o : Option (α × γ)} {f : α → γ → Option β} {z : β} (h : bn2 o f = some z) : ∃ x y, o = some (x, y) ∧ f x y = some z := by
  obtain ⟨⟨x, y⟩, h1, h2⟩ := ob_of h
  exact ⟨x, y, h1, h2⟩
theorem rdI_of {t : moS} {k : Nat} {i x : Int32} (h : rdI t k i = some x) : vp_in i (t.N k) ∧ x = t.I k i.toNatClampNeg := by
  unfold rdI at h
  split at h
  · cases h
  · exact ⟨by assumption, (Option.some.inj h).symm⟩
theorem rdJ_of {t : moS} {k : Nat} {i : Int32} {x : Int64} (h : rdJ t k i = some x) : vp_in i (t.N k) ∧ x = t.J k i.toNatClampNeg := by
  unfold rdJ at h
  split at h
  · cases h
  · exact ⟨by assumption, (Option.some.inj h).symm⟩
theorem wrI_of {t t' : moS} {k : Nat} {i x : Int32} (h : wrI t k i x = some t') : vp_in i (t.N k) ∧ t' = moSI t k i.toNatClampNeg x := by
  unfold wrI at h
  split at h
  · cases h
  · exact ⟨by assumption, (Option.some.inj h).symm⟩
theorem wrZ_of {t t' : moS} {k : Nat} {i x : Int32} (h : wrZ t k i x = some t') : vp_in i (t.N k) ∧ t' = moSI t k i.toNatClampNeg (vp_nar .boolean x) := by
  unfold wrZ at h
  split at h
  · cases h
  · exact ⟨by assumption, (Option.some.inj h).symm⟩
theorem wrJ_of {t t' : moS} {k : Nat} {i : Int32} {x : Int64} (h : wrJ t k i x = some t') : vp_in i (t.N k) ∧ t' = moSJ t k i.toNatClampNeg x := by
  unfold wrJ at h
  split at h
  · cases h
  · exact ⟨by assumption, (Option.some.inj h).symm⟩
/-- the model's memory and the room that is left: rows that grow (draft, text, sources) are paid by what they are -/
def mW (C : Nat × Nat) (R : pmM) (base m : Nat) (q : Nat → Nat) (t : moS) (kc ks : Nat) : Prop := moQ base m q ∧ moD R m q ∧ C.1 ≤ 4096 * kc + (t.N 7 + t.N 5) + 192 * t.N 102 ∧ C.2 ≤ ks + 2 * (t.N 7 + t.N 5) + 6 * t.N 102 ∧ (4096 ≤ t.N 7 ∧ t.N 7 ≤ 320000) ∧ (4096 ≤ t.N 5 ∧ t.N 5 ≤ 320000) ∧ (64 ≤ t.N 102 ∧ t.N 102 ≤ 8192 ∧ t.N 103 = t.N 102 ∧ t.N 104 = t.N 102) ∧ 2700000 ≤ C.1 ∧ 1340000 ≤ C.2
/-- the walk at a place and the function's rest, side by side -/
def JJ (C : Nat × Nat) (R : pmM) (base m : Nat) (G : pmK) (pc : Nat) (L : pmL) (st : List Value) (q : Nat → Nat) (s : moS) (kc ks : Nat) {β : Type} (e z : β) : Prop := mW C R base m q s kc ks → e = z → G pc L st (moM R m q s) kc ks
section JjRows
variable {cl : List vw_C} {base : Nat} {X : pmX} {Rt : pmR} {G : pmK} {pc : Nat} {L : pmL} {st : List Value} {R : pmM} {m : Nat} {q : Nat → Nat} {s : moS} {kc ks : Nat} {C : Nat × Nat} {β : Type} {e e2 z : β}
theorem jjs (hG : pm_cl cl base X Rt G) {ins : Instr} {pc' : Nat} {L' : pmL} {st' : List Value} (hc : X.code pc = some ins) (he : pm_ins cl base X Rt G ins pc L st (moM R m q s) kc ks = G pc' L' st' (moM R m q s) kc ks) (n : JJ C R base m G pc' L' st' q s kc ks e z) : JJ C R base m G pc L st q s kc ks e z := fun hw h => pgs hG hc he (n hw h)
theorem jjc (hG : pm_cl cl base X Rt G) {ins : Instr} {P : Prop} {pc' : Nat} {L' : pmL} {st' : List Value} (hc : X.code pc = some ins) (he : pm_ins cl base X Rt G ins pc L st (moM R m q s) kc ks = (P ∧ G pc' L' st' (moM R m q s) kc ks)) (hp : P) (n : JJ C R base m G pc' L' st' q s kc ks e z) : JJ C R base m G pc L st q s kc ks e z := fun hw h => pgc hG hc he hp (n hw h)
theorem jjc2 (hG : pm_cl cl base X Rt G) {ins : Instr} {P P2 : Prop} {pc' : Nat} {L' : pmL} {st' : List Value} (hc : X.code pc = some ins) (he : pm_ins cl base X Rt G ins pc L st (moM R m q s) kc ks = (P ∧ P2 ∧ G pc' L' st' (moM R m q s) kc ks)) (hp : P) (hp2 : P2) (n : JJ C R base m G pc' L' st' q s kc ks e z) : JJ C R base m G pc L st q s kc ks e z := fun hw h => pgc2 hG hc he hp hp2 (n hw h)
theorem jj_at {pc' : Nat} (e0 : pc' = pc) (n : JJ C R base m G pc' L st q s kc ks e z) : JJ C R base m G pc L st q s kc ks e z := e0 ▸ n
theorem jj_wl (hG : pm_cl cl base X Rt G) (is : List Nat) {L' : pmL} (he : lv_pick L is = L') (n : JJ C R base m G pc L' st q s kc ks e z) : JJ C R base m G pc L st q s kc ks e z := fun hw h => pg_wl hG is he (n hw h)
theorem jj_go (hG : pm_cl cl base X Rt G) {off : Int} {t : Nat} (hc : X.code pc = some (.goto off)) (hj : ((pc : Int) + off = (t : Int))) (n : JJ C R base m G t L st q s kc ks e z) : JJ C R base m G pc L st q s kc ks e z := fun hw h => pg_go hG hc hj (n hw h)
/-- constants -/
theorem jj_ic (hG : pm_cl cl base X Rt G) {n : Int} {v : Int32} (hc : X.code pc = some (.iconst n)) (ev : Int32.ofInt n = v) (nx : JJ C R base m G (pc + 1) L (.int v :: st) q s kc ks e z) : JJ C R base m G pc L st q s kc ks e z := by subst ev; exact fun hw h => pgs hG hc rfl (nx hw h)
theorem jj_bi (hG : pm_cl cl base X Rt G) {n : Int} {v : Int32} (hc : X.code pc = some (.bipush n)) (ev : (Int8.ofInt n).toInt32 = v) (nx : JJ C R base m G (pc + 2) L (.int v :: st) q s kc ks e z) : JJ C R base m G pc L st q s kc ks e z := by subst ev; exact fun hw h => pgs hG hc rfl (nx hw h)
theorem jj_si (hG : pm_cl cl base X Rt G) {n : Int} {v : Int32} (hc : X.code pc = some (.sipush n)) (ev : (Int16.ofInt n).toInt32 = v) (nx : JJ C R base m G (pc + 3) L (.int v :: st) q s kc ks e z) : JJ C R base m G pc L st q s kc ks e z := by subst ev; exact fun hw h => pgs hG hc rfl (nx hw h)
theorem jj_lc (hG : pm_cl cl base X Rt G) {v : Int64} {c : Fin 2} (hc : X.code pc = some (.lconst c)) (ev : Int64.ofNat c = v) (nx : JJ C R base m G (pc + 1) L (.long v :: st) q s kc ks e z) : JJ C R base m G pc L st q s kc ks e z := by subst ev; exact fun hw h => pgs hG hc rfl (nx hw h)
theorem jj_ld (hG : pm_cl cl base X Rt G) {i : Nat} {v : Int32} (hc : X.code pc = some (.ldc i)) (hv : X.ci i = some v) (nx : JJ C R base m G (pc + 2) L (.int v :: st) q s kc ks e z) : JJ C R base m G pc L st q s kc ks e z := fun hw h => pg_ldi hG hc hv (nx hw h)
theorem jj_lw (hG : pm_cl cl base X Rt G) {i : Nat} {v : Int32} (hc : X.code pc = some (.ldc_w i)) (hv : X.ci i = some v) (nx : JJ C R base m G (pc + 3) L (.int v :: st) q s kc ks e z) : JJ C R base m G pc L st q s kc ks e z := fun hw h => pg_lwi hG hc hv (nx hw h)
theorem jj_l2 (hG : pm_cl cl base X Rt G) {i : Nat} {v : Int64} (hc : X.code pc = some (.ldc2_w i)) (hv : X.cl i = some v) (nx : JJ C R base m G (pc + 3) L (.long v :: st) q s kc ks e z) : JJ C R base m G pc L st q s kc ks e z := fun hw h => pg hG hc (by
  show pm_opt (X.cl i) _
  rw [hv]
  exact nx hw h)
theorem jj_inc (hG : pm_cl cl base X Rt G) {i : Nat} {n : Int} {v x : Int32} (hc : X.code pc = some (.iinc i n)) (hi : i < X.nL) (hl : pm_get L i = some (.int x)) (ev : Int32.ofInt n = v) (nx : JJ C R base m G (pc + 3) (pm_st1 L i (.int (x + v))) st q s kc ks e z) : JJ C R base m G pc L st q s kc ks e z := fun hw h => pg hG hc ⟨hi, by
  subst ev
  show pm_old L i _
  unfold pm_old
  rw [hl]
  exact nx hw h⟩
/-- fields -/
theorem jj_gi (hG : pm_cl cl base X Rt G) {i k : Nat} {ty : FieldType} {w : Bool} (hc : X.code pc = some (.getfield i)) (hf : X.fld i = some (12, k, ty, w)) (hk : Nat.ble (k + 1) 166 = true) (hd : moKd k = 0) (nx : JJ C R base m G (pc + 3) L (.int (s.S k) :: st) q s kc ks e z) : JJ C R base m G pc L (.ref m :: st) q s kc ks e z := fun hw h => mo_gi hG hc hf hk hd (nx hw h)
theorem jj_gz (hG : pm_cl cl base X Rt G) {i k : Nat} {ty : FieldType} {w : Bool} (hc : X.code pc = some (.getfield i)) (hf : X.fld i = some (12, k, ty, w)) (hk : Nat.ble (k + 1) 166 = true) (hd : moKd k = 1) (nx : JJ C R base m G (pc + 3) L (.long (s.Z k) :: st) q s kc ks e z) : JJ C R base m G pc L (.ref m :: st) q s kc ks e z := fun hw h => mo_gz hG hc hf hk hd (nx hw h)
theorem jj_gr (hG : pm_cl cl base X Rt G) {i k : Nat} {ty : FieldType} {w : Bool} (hc : X.code pc = some (.getfield i)) (hf : X.fld i = some (12, k, ty, w)) (hk : Nat.ble (k + 1) 166 = true) (hd : Nat.ble 2 (moKd k) = true) (nx : JJ C R base m G (pc + 3) L (.ref (q k) :: st) q s kc ks e z) : JJ C R base m G pc L (.ref m :: st) q s kc ks e z := fun hw h => mo_gr hG hc hf hk hd (nx hw h)
theorem jj_pi (hG : pm_cl cl base X Rt G) {i k : Nat} {v : Int32} {f : moS → β} (hc : X.code pc = some (.putfield i)) (hf : X.fld i = some (12, k, .int, true)) (hk : Nat.ble (k + 1) 166 = true) (hd : moKd k = 0) (nx : ∀ s', JJ C R base m G (pc + 3) L st q s' kc ks (f s') z) : JJ C R base m G pc L (.int v :: .ref m :: st) q s kc ks (letS (moSS s k v) f) z := fun hw h => mo_pi hG hw.1 hc hf hk hd (nx (moSS s k v) hw h)
theorem jj_pz (hG : pm_cl cl base X Rt G) {i k : Nat} {v : Int64} {f : moS → β} (hc : X.code pc = some (.putfield i)) (hf : X.fld i = some (12, k, .long, true)) (hk : Nat.ble (k + 1) 166 = true) (hd : moKd k = 1) (nx : ∀ s', JJ C R base m G (pc + 3) L st q s' kc ks (f s') z) : JJ C R base m G pc L (.long v :: .ref m :: st) q s kc ks (letS (moSZ s k v) f) z := fun hw h => mo_pz hG hw.1 hc hf hk hd (nx (moSZ s k v) hw h)
theorem jj_al (hG : pm_cl cl base X Rt G) {k : Nat} (hc : X.code pc = some .arraylength) (hk : Nat.ble (k + 1) 166 = true) (hd : Nat.ble 2 (moKd k) = true) (nx : JJ C R base m G (pc + 1) L (.int (nI (s.N k)) :: st) q s kc ks e z) : JJ C R base m G pc L (.ref (q k) :: st) q s kc ks e z := fun hw h => mo_al hG hw.1 hc hk hd (nx hw h)
/-- jumps -/
theorem jj_ilt (hG : pm_cl cl base X Rt G) {off : Int} {x y : Int32} {t : Nat} {d : Decidable (x < y)} (hc : X.code pc = some (.if_icmp .lt off)) (hj : ((pc : Int) + off = (t : Int))) (a : JJ C R base m G t L st q s kc ks e z) (b : JJ C R base m G (pc + 3) L st q s kc ks e2 z) : JJ C R base m G pc L (.int y :: .int x :: st) q s kc ks (@ite _ (x < y) d e e2) z := fun hw h => pi_lt hG hc hj (fun c => a hw (by rw [if_pos c] at h; exact h)) (fun c => b hw (by rw [if_neg c] at h; exact h))
theorem jj_ige (hG : pm_cl cl base X Rt G) {off : Int} {x y : Int32} {t : Nat} {d : Decidable (x < y)} (hc : X.code pc = some (.if_icmp .ge off)) (hj : ((pc : Int) + off = (t : Int))) (a : JJ C R base m G t L st q s kc ks e z) (b : JJ C R base m G (pc + 3) L st q s kc ks e2 z) : JJ C R base m G pc L (.int y :: .int x :: st) q s kc ks (@ite _ (x < y) d e2 e) z := fun hw h => pi_ge hG hc hj (fun c => a hw (by rw [if_neg (Int32.not_lt.mpr c)] at h; exact h)) (fun c => b hw (by rw [if_pos (Int32.not_le.mp c)] at h; exact h))
theorem jj_igt (hG : pm_cl cl base X Rt G) {off : Int} {x y : Int32} {t : Nat} {d : Decidable (y < x)} (hc : X.code pc = some (.if_icmp .gt off)) (hj : ((pc : Int) + off = (t : Int))) (a : JJ C R base m G t L st q s kc ks e z) (b : JJ C R base m G (pc + 3) L st q s kc ks e2 z) : JJ C R base m G pc L (.int y :: .int x :: st) q s kc ks (@ite _ (y < x) d e e2) z := fun hw h => pi_gt hG hc hj (fun c => a hw (by rw [if_pos c] at h; exact h)) (fun c => b hw (by rw [if_neg c] at h; exact h))
theorem jj_ile (hG : pm_cl cl base X Rt G) {off : Int} {x y : Int32} {t : Nat} {d : Decidable (y < x)} (hc : X.code pc = some (.if_icmp .le off)) (hj : ((pc : Int) + off = (t : Int))) (a : JJ C R base m G t L st q s kc ks e z) (b : JJ C R base m G (pc + 3) L st q s kc ks e2 z) : JJ C R base m G pc L (.int y :: .int x :: st) q s kc ks (@ite _ (y < x) d e2 e) z := fun hw h => pi_le hG hc hj (fun c => a hw (by rw [if_neg (Int32.not_lt.mpr c)] at h; exact h)) (fun c => b hw (by rw [if_pos (Int32.not_le.mp c)] at h; exact h))
theorem jj_ieq (hG : pm_cl cl base X Rt G) {off : Int} {x y : Int32} {t : Nat} {d : Decidable (x = y)} (hc : X.code pc = some (.if_icmp .eq off)) (hj : ((pc : Int) + off = (t : Int))) (a : JJ C R base m G t L st q s kc ks e z) (b : JJ C R base m G (pc + 3) L st q s kc ks e2 z) : JJ C R base m G pc L (.int y :: .int x :: st) q s kc ks (@ite _ (x = y) d e e2) z := fun hw h => pi_eq hG hc hj (fun c => a hw (by rw [if_pos c] at h; exact h)) (fun c => b hw (by rw [if_neg c] at h; exact h))
theorem jj_ine (hG : pm_cl cl base X Rt G) {off : Int} {x y : Int32} {t : Nat} {d : Decidable (x = y)} (hc : X.code pc = some (.if_icmp .ne off)) (hj : ((pc : Int) + off = (t : Int))) (a : JJ C R base m G t L st q s kc ks e z) (b : JJ C R base m G (pc + 3) L st q s kc ks e2 z) : JJ C R base m G pc L (.int y :: .int x :: st) q s kc ks (@ite _ (x = y) d e2 e) z := fun hw h => pi_ne hG hc hj (fun c => a hw (by rw [if_neg c] at h; exact h)) (fun c => b hw (by rw [if_pos c] at h; exact h))
theorem jj_zlt (hG : pm_cl cl base X Rt G) {off : Int} {x : Int32} {t : Nat} {d : Decidable (x < 0)} (hc : X.code pc = some (.ifCond .lt off)) (hj : ((pc : Int) + off = (t : Int))) (a : JJ C R base m G t L st q s kc ks e z) (b : JJ C R base m G (pc + 3) L st q s kc ks e2 z) : JJ C R base m G pc L (.int x :: st) q s kc ks (@ite _ (x < 0) d e e2) z := fun hw h => pz_lt hG hc hj (fun c => a hw (by rw [if_pos c] at h; exact h)) (fun c => b hw (by rw [if_neg c] at h; exact h))
theorem jj_zge (hG : pm_cl cl base X Rt G) {off : Int} {x : Int32} {t : Nat} {d : Decidable (x < 0)} (hc : X.code pc = some (.ifCond .ge off)) (hj : ((pc : Int) + off = (t : Int))) (a : JJ C R base m G t L st q s kc ks e z) (b : JJ C R base m G (pc + 3) L st q s kc ks e2 z) : JJ C R base m G pc L (.int x :: st) q s kc ks (@ite _ (x < 0) d e2 e) z := fun hw h => pz_ge hG hc hj (fun c => a hw (by rw [if_neg (Int32.not_lt.mpr c)] at h; exact h)) (fun c => b hw (by rw [if_pos (Int32.not_le.mp c)] at h; exact h))
theorem jj_zgt (hG : pm_cl cl base X Rt G) {off : Int} {x : Int32} {t : Nat} {d : Decidable (0 < x)} (hc : X.code pc = some (.ifCond .gt off)) (hj : ((pc : Int) + off = (t : Int))) (a : JJ C R base m G t L st q s kc ks e z) (b : JJ C R base m G (pc + 3) L st q s kc ks e2 z) : JJ C R base m G pc L (.int x :: st) q s kc ks (@ite _ (0 < x) d e e2) z := fun hw h => pz_gt hG hc hj (fun c => a hw (by rw [if_pos c] at h; exact h)) (fun c => b hw (by rw [if_neg c] at h; exact h))
theorem jj_zle (hG : pm_cl cl base X Rt G) {off : Int} {x : Int32} {t : Nat} {d : Decidable (0 < x)} (hc : X.code pc = some (.ifCond .le off)) (hj : ((pc : Int) + off = (t : Int))) (a : JJ C R base m G t L st q s kc ks e z) (b : JJ C R base m G (pc + 3) L st q s kc ks e2 z) : JJ C R base m G pc L (.int x :: st) q s kc ks (@ite _ (0 < x) d e2 e) z := fun hw h => pz_le hG hc hj (fun c => a hw (by rw [if_neg (Int32.not_lt.mpr c)] at h; exact h)) (fun c => b hw (by rw [if_pos (Int32.not_le.mp c)] at h; exact h))
theorem jj_zeq (hG : pm_cl cl base X Rt G) {off : Int} {x : Int32} {t : Nat} {d : Decidable (x = 0)} (hc : X.code pc = some (.ifCond .eq off)) (hj : ((pc : Int) + off = (t : Int))) (a : JJ C R base m G t L st q s kc ks e z) (b : JJ C R base m G (pc + 3) L st q s kc ks e2 z) : JJ C R base m G pc L (.int x :: st) q s kc ks (@ite _ (x = 0) d e e2) z := fun hw h => pz_eq hG hc hj (fun c => a hw (by rw [if_pos c] at h; exact h)) (fun c => b hw (by rw [if_neg c] at h; exact h))
theorem jj_zne (hG : pm_cl cl base X Rt G) {off : Int} {x : Int32} {t : Nat} {d : Decidable (x = 0)} (hc : X.code pc = some (.ifCond .ne off)) (hj : ((pc : Int) + off = (t : Int))) (a : JJ C R base m G t L st q s kc ks e z) (b : JJ C R base m G (pc + 3) L st q s kc ks e2 z) : JJ C R base m G pc L (.int x :: st) q s kc ks (@ite _ (x = 0) d e2 e) z := fun hw h => pz_ne hG hc hj (fun c => a hw (by rw [if_neg c] at h; exact h)) (fun c => b hw (by rw [if_pos c] at h; exact h))
/-- jumps behind a comparison of long numbers -/
theorem jj_leq (hG : pm_cl cl base X Rt G) {off : Int} {x y : Int64} {t : Nat} {d : Decidable (x = y)} (hc : X.code pc = some (.ifCond .eq off)) (hj : ((pc : Int) + off = (t : Int))) (a : JJ C R base m G t L st q s kc ks e z) (b : JJ C R base m G (pc + 3) L st q s kc ks e2 z) : JJ C R base m G pc L (.int (lg_cmp x y) :: st) q s kc ks (@ite _ (x = y) d e e2) z := fun hw h => pz_eq hG hc hj (fun c => a hw (by rw [if_pos ((lg_cmp_eq x y).mp c)] at h; exact h)) (fun c => b hw (by rw [if_neg (fun w => c ((lg_cmp_eq x y).mpr w))] at h; exact h))
theorem jj_lne (hG : pm_cl cl base X Rt G) {off : Int} {x y : Int64} {t : Nat} {d : Decidable (x = y)} (hc : X.code pc = some (.ifCond .ne off)) (hj : ((pc : Int) + off = (t : Int))) (a : JJ C R base m G t L st q s kc ks e z) (b : JJ C R base m G (pc + 3) L st q s kc ks e2 z) : JJ C R base m G pc L (.int (lg_cmp x y) :: st) q s kc ks (@ite _ (x = y) d e2 e) z := fun hw h => pz_ne hG hc hj (fun c => a hw (by rw [if_neg (fun w => c ((lg_cmp_eq x y).mpr w))] at h; exact h)) (fun c => b hw (by rw [if_pos ((lg_cmp_eq x y).mp c)] at h; exact h))
theorem jj_llt (hG : pm_cl cl base X Rt G) {off : Int} {x y : Int64} {t : Nat} {d : Decidable (x < y)} (hc : X.code pc = some (.ifCond .lt off)) (hj : ((pc : Int) + off = (t : Int))) (a : JJ C R base m G t L st q s kc ks e z) (b : JJ C R base m G (pc + 3) L st q s kc ks e2 z) : JJ C R base m G pc L (.int (lg_cmp x y) :: st) q s kc ks (@ite _ (x < y) d e e2) z := fun hw h => pz_lt hG hc hj (fun c => a hw (by rw [if_pos ((lg_cmp_lt x y).mp c)] at h; exact h)) (fun c => b hw (by rw [if_neg (fun w => c ((lg_cmp_lt x y).mpr w))] at h; exact h))
theorem jj_lge (hG : pm_cl cl base X Rt G) {off : Int} {x y : Int64} {t : Nat} {d : Decidable (x < y)} (hc : X.code pc = some (.ifCond .ge off)) (hj : ((pc : Int) + off = (t : Int))) (a : JJ C R base m G t L st q s kc ks e z) (b : JJ C R base m G (pc + 3) L st q s kc ks e2 z) : JJ C R base m G pc L (.int (lg_cmp x y) :: st) q s kc ks (@ite _ (x < y) d e2 e) z := fun hw h => pz_ge hG hc hj (fun c => a hw (by rw [if_neg (Int64.not_lt.mpr ((lg_cmp_ge x y).mp c))] at h; exact h)) (fun c => b hw (by rw [if_pos (Int64.not_le.mp fun w => c ((lg_cmp_ge x y).mpr w))] at h; exact h))
theorem jj_lgt (hG : pm_cl cl base X Rt G) {off : Int} {x y : Int64} {t : Nat} {d : Decidable (y < x)} (hc : X.code pc = some (.ifCond .gt off)) (hj : ((pc : Int) + off = (t : Int))) (a : JJ C R base m G t L st q s kc ks e z) (b : JJ C R base m G (pc + 3) L st q s kc ks e2 z) : JJ C R base m G pc L (.int (lg_cmp x y) :: st) q s kc ks (@ite _ (y < x) d e e2) z := fun hw h => pz_gt hG hc hj (fun c => a hw (by rw [if_pos ((lg_cmp_gt x y).mp c)] at h; exact h)) (fun c => b hw (by rw [if_neg (fun w => c ((lg_cmp_gt x y).mpr w))] at h; exact h))
theorem jj_lle (hG : pm_cl cl base X Rt G) {off : Int} {x y : Int64} {t : Nat} {d : Decidable (y < x)} (hc : X.code pc = some (.ifCond .le off)) (hj : ((pc : Int) + off = (t : Int))) (a : JJ C R base m G t L st q s kc ks e z) (b : JJ C R base m G (pc + 3) L st q s kc ks e2 z) : JJ C R base m G pc L (.int (lg_cmp x y) :: st) q s kc ks (@ite _ (y < x) d e2 e) z := fun hw h => pz_le hG hc hj (fun c => a hw (by rw [if_neg (Int64.not_lt.mpr ((lg_cmp_le x y).mp c))] at h; exact h)) (fun c => b hw (by rw [if_pos (Int64.not_le.mp fun w => c ((lg_cmp_le x y).mpr w))] at h; exact h))
end JjRows
section JjRows2
variable {cl : List vw_C} {base : Nat} {X : pmX} {Rt : pmR} {G : pmK} {pc : Nat} {L : pmL} {st : List Value} {R : pmM} {m : Nat} {q : Nat → Nat} {s : moS} {kc ks : Nat} {C : Nat × Nat} {α β : Type} {z : β}
/-- rows of the model -/
theorem jj_ia (hG : pm_cl cl base X Rt G) {k : Nat} {i : Int32} {f : Int32 → Option β} (hc : X.code pc = some .iaload) (hk : Nat.ble (k + 1) 166 = true) (hd : moKd k = 2) (nx : ∀ x, JJ C R base m G (pc + 1) L (.int x :: st) q s kc ks (f x) (some z)) : JJ C R base m G pc L (.int i :: .ref (q k) :: st) q s kc ks ((rdI s k i).bind f) (some z) := fun hw h => by
  obtain ⟨x, h1, h⟩ := ob_of h
  obtain ⟨hi, rfl⟩ := rdI_of h1
  exact mo_ia hG hw.1 hc hk hd hi (nx _ hw h)
theorem jj_ba (hG : pm_cl cl base X Rt G) {k : Nat} {i : Int32} {f : Int32 → Option β} (hc : X.code pc = some .baload) (hk : Nat.ble (k + 1) 166 = true) (hd : moKd k = 3) (nx : ∀ x, JJ C R base m G (pc + 1) L (.int x :: st) q s kc ks (f x) (some z)) : JJ C R base m G pc L (.int i :: .ref (q k) :: st) q s kc ks ((rdI s k i).bind f) (some z) := fun hw h => by
  obtain ⟨x, h1, h⟩ := ob_of h
  obtain ⟨hi, rfl⟩ := rdI_of h1
  exact mo_ba hG hw.1 hc hk hd hi (nx _ hw h)
theorem jj_la (hG : pm_cl cl base X Rt G) {k : Nat} {i : Int32} {f : Int64 → Option β} (hc : X.code pc = some .laload) (hk : Nat.ble (k + 1) 166 = true) (hd : moKd k = 4) (nx : ∀ x, JJ C R base m G (pc + 1) L (.long x :: st) q s kc ks (f x) (some z)) : JJ C R base m G pc L (.int i :: .ref (q k) :: st) q s kc ks ((rdJ s k i).bind f) (some z) := fun hw h => by
  obtain ⟨x, h1, h⟩ := ob_of h
  obtain ⟨hi, rfl⟩ := rdJ_of h1
  exact mo_la hG hw.1 hc hk hd hi (nx _ hw h)
theorem jj_is (hG : pm_cl cl base X Rt G) {k : Nat} {i x : Int32} {f : moS → Option β} (hc : X.code pc = some .iastore) (hk : Nat.ble (k + 1) 166 = true) (hd : moKd k = 2) (nx : ∀ s', JJ C R base m G (pc + 1) L st q s' kc ks (f s') (some z)) : JJ C R base m G pc L (.int x :: .int i :: .ref (q k) :: st) q s kc ks ((wrI s k i x).bind f) (some z) := fun hw h => by
  obtain ⟨t, h1, h⟩ := ob_of h
  obtain ⟨hi, rfl⟩ := wrI_of h1
  exact mo_is hG hw.1 hc hk hd hi (nx (moSI s k i.toNatClampNeg x) hw h)
theorem jj_bs (hG : pm_cl cl base X Rt G) {k : Nat} {i x : Int32} {f : moS → Option β} (hc : X.code pc = some .bastore) (hk : Nat.ble (k + 1) 166 = true) (hd : moKd k = 3) (nx : ∀ s', JJ C R base m G (pc + 1) L st q s' kc ks (f s') (some z)) : JJ C R base m G pc L (.int x :: .int i :: .ref (q k) :: st) q s kc ks ((wrZ s k i x).bind f) (some z) := fun hw h => by
  obtain ⟨t, h1, h⟩ := ob_of h
  obtain ⟨hi, rfl⟩ := wrZ_of h1
  exact mo_bs hG hw.1 hc hk hd hi (nx (moSI s k i.toNatClampNeg (vp_nar .boolean x)) hw h)
theorem jj_ls (hG : pm_cl cl base X Rt G) {k : Nat} {i : Int32} {x : Int64} {f : moS → Option β} (hc : X.code pc = some .lastore) (hk : Nat.ble (k + 1) 166 = true) (hd : moKd k = 4) (nx : ∀ s', JJ C R base m G (pc + 1) L st q s' kc ks (f s') (some z)) : JJ C R base m G pc L (.long x :: .int i :: .ref (q k) :: st) q s kc ks ((wrJ s k i x).bind f) (some z) := fun hw h => by
  obtain ⟨t, h1, h⟩ := ob_of h
  obtain ⟨hi, rfl⟩ := wrJ_of h1
  exact mo_ls hG hw.1 hc hk hd hi (nx (moSJ s k i.toNatClampNeg x) hw h)
/-- divisions by what isn't written out -/
theorem jj_nz (hG : pm_cl cl base X Rt G) {ins : Instr} {y : Int32} {e : Option β} {pc' : Nat} {L' : pmL} {st' : List Value} (hc : X.code pc = some ins) (he : pm_ins cl base X Rt G ins pc L st (moM R m q s) kc ks = (¬ y = 0 ∧ G pc' L' st' (moM R m q s) kc ks)) (n : JJ C R base m G pc' L' st' q s kc ks e (some z)) : JJ C R base m G pc L st q s kc ks (nz y e) (some z) := fun hw h => by
  unfold nz at h
  split at h
  · cases h
  · exact pgc hG hc he (by assumption) (n hw h)
theorem jj_nzL (hG : pm_cl cl base X Rt G) {ins : Instr} {y : Int64} {e : Option β} {pc' : Nat} {L' : pmL} {st' : List Value} (hc : X.code pc = some ins) (he : pm_ins cl base X Rt G ins pc L st (moM R m q s) kc ks = (¬ y = 0 ∧ G pc' L' st' (moM R m q s) kc ks)) (n : JJ C R base m G pc' L' st' q s kc ks e (some z)) : JJ C R base m G pc L st q s kc ks (nzL y e) (some z) := fun hw h => by
  unfold nzL at h
  split at h
  · cases h
  · exact pgc hG hc he (by assumption) (n hw h)
/-- loops -/
theorem jj_lp {f : α → Option (α ⊕ β)} {x : α} (n : ∀ n, JJ C R base m G pc L st q s kc ks (lpN f n x) (some z)) : JJ C R base m G pc L st q s kc ks (lp f x) (some z) := fun hw h => by
  obtain ⟨k, hk⟩ := lp_of h
  exact n k hw hk
theorem jj_lp0 {f : α → Option (α ⊕ β)} {x : α} : JJ C R base m G pc L st q s kc ks (lpN f 0 x) (some z) := fun _ h => by cases h
theorem jj_lpS {f : α → Option (α ⊕ β)} {x : α} {n : Nat} (nx : ∀ y, lpC f n z y → JJ C R base m G pc L st q s kc ks (f x) (some y)) : JJ C R base m G pc L st q s kc ks (lpN f (n + 1) x) (some z) := fun hw h => by
  obtain ⟨y, h1, h2⟩ := lpN_s h
  exact nx y h2 hw h1
theorem jj_back {f : α → Option (α ⊕ β)} {x : α} {n : Nat} {y : α ⊕ β} (c : lpC f n z y) (nx : JJ C R base m G pc L st q s kc ks (lpN f n x) (some z)) : JJ C R base m G pc L st q s kc ks (some (.inl x)) (some y) := fun hw h => by
  injection h with h
  subst h
  exact nx hw c
theorem jj_exit {f : α → Option (α ⊕ β)} {n : Nat} {y : α ⊕ β} {A : Option β} (c : lpC f n z y) (nx : JJ C R base m G pc L st q s kc ks A (some z)) : JJ C R base m G pc L st q s kc ks (xo A) (some y) := fun hw h => by
  unfold xo at h
  rw [Option.map_eq_some_iff] at h
  obtain ⟨a, h1, h2⟩ := h
  subst h2
  have c : a = z := c
  rw [c] at h1
  exact nx hw h1
/-- returns: what only reads -/
theorem jj_ri (hG : pm_cl cl base X Rt G) {x r : Int32} {ty : FieldType} (hc : X.code pc = some .ireturn) (hr : X.ret = some ty) (hn : narrow ty (.int x) = .int x) (k : Rt (some (.int r)) (moM R m q s) kc ks) : JJ C R base m G pc L [.int x] q s kc ks (some x) (some r) := fun _ h => by
  injection h with h
  subst h
  exact pg_ri hG hc hr hn k
theorem jj_rz (hG : pm_cl cl base X Rt G) {x r : Int32} (hc : X.code pc = some .ireturn) (hr : X.ret = some .boolean) (k : Rt (some (.int r)) (moM R m q s) kc ks) : JJ C R base m G pc L [.int x] q s kc ks (okZ x (some x)) (some r) := fun _ h => by
  unfold okZ at h
  split at h
  · rename_i hx
    injection h with h
    subst h
    refine pg_ri hG hc hr ?_ k
    cases hx with
    | inl e => rw [e]; rfl
    | inr e => rw [e]; rfl
  · cases h
theorem jj_rl (hG : pm_cl cl base X Rt G) {x r : Int64} (hc : X.code pc = some .lreturn) (hr : X.ret = some .long) (k : Rt (some (.long r)) (moM R m q s) kc ks) : JJ C R base m G pc L [.long x] q s kc ks (some x) (some r) := fun _ h => by
  injection h with h
  subst h
  exact pg_rl hG hc hr k
/-- .. and can't fail -/
theorem jj_rit (hG : pm_cl cl base X Rt G) {x r : Int32} {ty : FieldType} (hc : X.code pc = some .ireturn) (hr : X.ret = some ty) (hn : narrow ty (.int x) = .int x) (k : Rt (some (.int r)) (moM R m q s) kc ks) : JJ C R base m G pc L [.int x] q s kc ks x r := fun _ h => by
  subst h
  exact pg_ri hG hc hr hn k
theorem jj_rlt (hG : pm_cl cl base X Rt G) {x r : Int64} (hc : X.code pc = some .lreturn) (hr : X.ret = some .long) (k : Rt (some (.long r)) (moM R m q s) kc ks) : JJ C R base m G pc L [.long x] q s kc ks x r := fun _ h => by
  subst h
  exact pg_rl hG hc hr k
/-- returns: what writes -/
theorem jj_riS (hG : pm_cl cl base X Rt G) {x r : Int32} {sz : moS} {ty : FieldType} (hc : X.code pc = some .ireturn) (hr : X.ret = some ty) (hn : narrow ty (.int x) = .int x) (k : mW C R base m q sz kc ks → Rt (some (.int r)) (moM R m q sz) kc ks) : JJ C R base m G pc L [.int x] q s kc ks (some (x, s)) (some (r, sz)) := fun hw h => by
  injection h with h
  injection h with h1 h2
  subst h1 h2
  exact pg_ri hG hc hr hn (k hw)
theorem jj_rzS (hG : pm_cl cl base X Rt G) {x r : Int32} {sz : moS} (hc : X.code pc = some .ireturn) (hr : X.ret = some .boolean) (k : mW C R base m q sz kc ks → Rt (some (.int r)) (moM R m q sz) kc ks) : JJ C R base m G pc L [.int x] q s kc ks (okZ x (some (x, s))) (some (r, sz)) := fun hw h => by
  unfold okZ at h
  split at h
  · rename_i hx
    injection h with h
    injection h with h1 h2
    subst h1 h2
    refine pg_ri hG hc hr ?_ (k hw)
    cases hx with
    | inl e => rw [e]; rfl
    | inr e => rw [e]; rfl
  · cases h
theorem jj_rlS (hG : pm_cl cl base X Rt G) {x r : Int64} {sz : moS} (hc : X.code pc = some .lreturn) (hr : X.ret = some .long) (k : mW C R base m q sz kc ks → Rt (some (.long r)) (moM R m q sz) kc ks) : JJ C R base m G pc L [.long x] q s kc ks (some (x, s)) (some (r, sz)) := fun hw h => by
  injection h with h
  injection h with h1 h2
  subst h1 h2
  exact pg_rl hG hc hr (k hw)
theorem jj_rvS (hG : pm_cl cl base X Rt G) {sz : moS} (hc : X.code pc = some .return_) (hr : X.ret = none) (k : mW C R base m q sz kc ks → Rt none (moM R m q sz) kc ks) : JJ C R base m G pc L [] q s kc ks (some s) (some sz) := fun hw h => by
  injection h with h
  subst h
  exact pg_rv hG hc hr (k hw)
end JjRows2
section JjCalls
variable {cl : List vw_C} {base : Nat} {X : pmX} {Rt : pmR} {G : pmK} {pc : Nat} {L : pmL} {st st' : List Value} {R : pmM} {m : Nat} {q : Nat → Nat} {s : moS} {kc ks : Nat} {C : Nat × Nat} {β : Type} {e z : β} {i n : Nat} {T : pmT} {As : List Value}
/-- calls of what only reads and can't fail -/
theorem jj_ct {v : Value} (hG : pm_cl cl base X Rt G) (k : Nat) (hc : X.code pc = some (pm_iv k i)) (hy : X.cal i = some (k, n, T)) (hn : n ≤ st.length) (hk : k < 3) (h8 : pm_cats (st.drop n) ≤ 8) (hA : (st.take n).reverse = As) (hs : st.drop n = st') (hT : ∀ Rt' : pmR, mW C R base m q s kc ks → Rt' (some v) (moM R m q s) kc ks → T As (moM R m q s) kc ks Rt') (nx : JJ C R base m G (pc + 3) L (v :: st') q s kc ks e z) : JJ C R base m G pc L st q s kc ks e z := fun hw h => by
  refine pg_cal hG k hc hy hn hk h8 ?_
  rw [hA, hs]
  exact hT _ hw (nx hw h)
/-- .. and may fail -/
theorem jj_cp {γ : Type} {w : γ → Value} {o : Option γ} {f : γ → Option β} (hG : pm_cl cl base X Rt G) (k : Nat) (hc : X.code pc = some (pm_iv k i)) (hy : X.cal i = some (k, n, T)) (hn : n ≤ st.length) (hk : k < 3) (h8 : pm_cats (st.drop n) ≤ 8) (hA : (st.take n).reverse = As) (hs : st.drop n = st') (hT : ∀ (x : γ) (Rt' : pmR), mW C R base m q s kc ks → o = some x → Rt' (some (w x)) (moM R m q s) kc ks → T As (moM R m q s) kc ks Rt') (nx : ∀ x, JJ C R base m G (pc + 3) L (w x :: st') q s kc ks (f x) (some z)) : JJ C R base m G pc L st q s kc ks (o.bind f) (some z) := fun hw h => by
  obtain ⟨x, h1, h⟩ := ob_of h
  refine pg_cal hG k hc hy hn hk h8 ?_
  rw [hA, hs]
  exact hT x _ hw h1 (nx x hw h)
theorem jj_cp2 {γ : Type} {w : γ → Value} {o : Option γ} {f : γ → Option β} (hG : pm_cl cl base X Rt G) (hc : X.code pc = some (.invokestatic i)) (hy : X.cal i = some (2, n, T)) (hn : n ≤ st.length) (h8 : pm_cats (st.drop n) ≤ 12) (hA : (st.take n).reverse = As) (hs : st.drop n = st') (hT : ∀ (x : γ) (Rt' : pmR), mW C R base m q s kc ks → o = some x → Rt' (some (w x)) (moM R m q s) kc ks → T As (moM R m q s) kc ks Rt') (nx : ∀ x, JJ C R base m G (pc + 3) L (w x :: st') q s kc ks (f x) (some z)) : JJ C R base m G pc L st q s kc ks (o.bind f) (some z) := fun hw h => by
  obtain ⟨x, h1, h⟩ := ob_of h
  refine pg_cal2 hG hc hy hn h8 ?_
  rw [hA, hs]
  exact hT x _ hw h1 (nx x hw h)
/-- calls of what writes -/
theorem jj_cs {γ : Type} {w : γ → Value} {o : Option (γ × moS)} {f : γ → moS → Option β} (hG : pm_cl cl base X Rt G) (k : Nat) (hc : X.code pc = some (pm_iv k i)) (hy : X.cal i = some (k, n, T)) (hn : n ≤ st.length) (hk : k < 3) (h8 : pm_cats (st.drop n) ≤ 8) (hA : (st.take n).reverse = As) (hs : st.drop n = st') (hT : ∀ (x : γ) (s' : moS) (Rt' : pmR), mW C R base m q s kc ks → o = some (x, s') → (mW C R base m q s' kc ks → Rt' (some (w x)) (moM R m q s') kc ks) → T As (moM R m q s) kc ks Rt') (nx : ∀ x s', JJ C R base m G (pc + 3) L (w x :: st') q s' kc ks (f x s') (some z)) : JJ C R base m G pc L st q s kc ks (bn2 o f) (some z) := fun hw h => by
  obtain ⟨x, s', h1, h⟩ := ob2_of h
  refine pg_cal hG k hc hy hn hk h8 ?_
  rw [hA, hs]
  exact hT x s' _ hw h1 (fun hw => nx x s' hw h)
theorem jj_cv {o : Option moS} {f : moS → Option β} (hG : pm_cl cl base X Rt G) (k : Nat) (hc : X.code pc = some (pm_iv k i)) (hy : X.cal i = some (k, n, T)) (hn : n ≤ st.length) (hk : k < 3) (h8 : pm_cats (st.drop n) ≤ 8) (hA : (st.take n).reverse = As) (hs : st.drop n = st') (hT : ∀ (s' : moS) (Rt' : pmR), mW C R base m q s kc ks → o = some s' → (mW C R base m q s' kc ks → Rt' none (moM R m q s') kc ks) → T As (moM R m q s) kc ks Rt') (nx : ∀ s', JJ C R base m G (pc + 3) L st' q s' kc ks (f s') (some z)) : JJ C R base m G pc L st q s kc ks (o.bind f) (some z) := fun hw h => by
  obtain ⟨s', h1, h⟩ := ob_of h
  refine pg_cal hG k hc hy hn hk h8 ?_
  rw [hA, hs]
  exact hT s' _ hw h1 (fun hw => nx s' hw h)
/-- calls of what may grow -/
theorem jj_csA {γ : Type} {w : γ → Value} {o : Option (γ × moS)} {f : γ → moS → Option β} (hG : pm_cl cl base X Rt G) (k : Nat) (hc : X.code pc = some (pm_iv k i)) (hy : X.cal i = some (k, n, T)) (hn : n ≤ st.length) (hk : k < 3) (h8 : pm_cats (st.drop n) ≤ 8) (hA : (st.take n).reverse = As) (hs : st.drop n = st') (hT : ∀ (x : γ) (s' : moS) (Rt' : pmR), mW C R base m q s kc ks → o = some (x, s') → (∀ q' kc' ks', mW C R base m q' s' kc' ks' → Rt' (some (w x)) (moM R m q' s') kc' ks') → T As (moM R m q s) kc ks Rt') (nx : ∀ x s' q' kc' ks', JJ C R base m G (pc + 3) L (w x :: st') q' s' kc' ks' (f x s') (some z)) : JJ C R base m G pc L st q s kc ks (bn2 o f) (some z) := fun hw h => by
  obtain ⟨x, s', h1, h⟩ := ob2_of h
  refine pg_cal hG k hc hy hn hk h8 ?_
  rw [hA, hs]
  exact hT x s' _ hw h1 (fun q' kc' ks' hw => nx x s' q' kc' ks' hw h)
theorem jj_cvA {o : Option moS} {f : moS → Option β} (hG : pm_cl cl base X Rt G) (k : Nat) (hc : X.code pc = some (pm_iv k i)) (hy : X.cal i = some (k, n, T)) (hn : n ≤ st.length) (hk : k < 3) (h8 : pm_cats (st.drop n) ≤ 8) (hA : (st.take n).reverse = As) (hs : st.drop n = st') (hT : ∀ (s' : moS) (Rt' : pmR), mW C R base m q s kc ks → o = some s' → (∀ q' kc' ks', mW C R base m q' s' kc' ks' → Rt' none (moM R m q' s') kc' ks') → T As (moM R m q s) kc ks Rt') (nx : ∀ s' q' kc' ks', JJ C R base m G (pc + 3) L st' q' s' kc' ks' (f s') (some z)) : JJ C R base m G pc L st q s kc ks (o.bind f) (some z) := fun hw h => by
  obtain ⟨s', h1, h⟩ := ob_of h
  refine pg_cal hG k hc hy hn hk h8 ?_
  rw [hA, hs]
  exact hT s' _ hw h1 (fun q' kc' ks' hw => nx s' q' kc' ks' hw h)
end JjCalls
