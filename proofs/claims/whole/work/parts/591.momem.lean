/-! The model's memory as one value. -/
def moKs : List Nat := [0, 0, 2, 0, 0, 2, 0, 2, 0, 2, 2, 0, 0, 1, 1, 0, 2, 0, 4, 2, 2, 2, 3, 2, 2, 2, 2, 0, 4, 2, 3, 2, 4, 4, 2, 2, 2, 0, 4, 3, 2, 2, 2, 2, 2, 2, 2, 2, 4, 4, 2, 2, 2, 2, 2, 4, 4, 2, 3, 2, 2, 2, 2, 2, 2, 2, 2, 2, 2, 2, 2, 2, 2, 4, 3, 3, 4, 4, 2, 2, 2, 2, 2, 2, 3, 2, 2, 2, 2, 2, 2, 2, 4, 4, 2, 2, 2, 4, 4, 2, 3, 0, 2, 4, 4, 2, 2, 4, 4, 2, 2, 2, 2, 2, 4, 4, 2, 4, 4, 3, 2, 2, 2, 0, 2, 3, 2, 2, 3, 4, 4, 2, 4, 4, 2, 2, 2, 2, 2, 0, 4, 4, 2, 2, 2, 0, 2, 2, 0, 2, 0, 2, 3, 0, 0, 0, 0, 2, 2, 2, 2, 4, 0, 0, 1, 1]
/-- a field's sort: 0 a number, 1 a long number, 2 a row of numbers, 3 a row of truths, 4 a row of long numbers -/
def moKd (k : Nat) : Nat := moKs.getD k 0
/-- numbers, long numbers, rows of numbers, rows of long numbers, how long the rows are: by the fields' numbers -/
abbrev moS : Type := (Nat → Int32) × (Nat → Int64) × (Nat → Nat → Int32) × (Nat → Nat → Int64) × (Nat → Nat)
abbrev moS.S (s : moS) : Nat → Int32 := s.1
abbrev moS.Z (s : moS) : Nat → Int64 := s.2.1
abbrev moS.I (s : moS) : Nat → Nat → Int32 := s.2.2.1
abbrev moS.J (s : moS) : Nat → Nat → Int64 := s.2.2.2.1
abbrev moS.N (s : moS) : Nat → Nat := s.2.2.2.2
def moV (q : Nat → Nat) (s : moS) (k : Nat) : Value := match moKd k with
  | 0 => .int (s.S k)
  | 1 => .long (s.Z k)
  | _ => .ref (q k)
def moA (s : moS) (k : Nat) : pmE := match moKd k with
  | 2 => .inl (.int, s.N k, .inl (s.I k))
  | 3 => .inl (.boolean, s.N k, .inl (s.I k))
  | _ => .inl (.long, s.N k, .inr (.inl (s.J k)))
def moAr : List Nat := (List.range 166).filter (fun k => Nat.ble 2 (moKd k))
/-- the picture: the model, its rows, the rest -/
def moM (R : pmM) (m : Nat) (q : Nat → Nat) (s : moS) : pmM := fun a => if a = m then some (.inr (12, moL (moV q s))) else match moAr.find? (fun k => q k == a) with
  | some k => some (moA s k)
  | none => R a
/-- the rows' addresses are apart, and may be written -/
def moQ (base m : Nat) (q : Nat → Nat) : Prop := base ≤ m ∧ ∀ k ∈ moAr, base ≤ q k ∧ q k ≠ m ∧ ∀ j ∈ moAr, q j = q k → j = k
theorem mo_mem {k : Nat} (h1 : Nat.ble (k + 1) 166 = true) (h2 : Nat.ble 2 (moKd k) = true) : k ∈ moAr := List.mem_filter.mpr ⟨List.mem_range.mpr (Nat.le_of_ble_eq_true h1), h2⟩
section MoMem
variable {R : pmM} {base m : Nat} {q : Nat → Nat} {s s' : moS}
theorem moM_m : moM R m q s m = some (.inr (12, moL (moV q s))) := if_pos rfl
theorem moM_f (hq : moQ base m q) {k : Nat} (hk : k ∈ moAr) : moAr.find? (fun j => q j == q k) = some k := by
  cases hf : moAr.find? (fun j => q j == q k) with
  | none => exact absurd (beq_self_eq_true (q k)) (List.find?_eq_none.mp hf k hk)
  | some j =>
    have h1 := List.find?_some hf
    have h2 := List.mem_of_find?_eq_some hf
    rw [(hq.2 k hk).2.2 j h2 (eq_of_beq h1)]
theorem moM_q (hq : moQ base m q) {k : Nat} (hk : k ∈ moAr) : moM R m q s (q k) = some (moA s k) := by
  unfold moM
  rw [if_neg (hq.2 k hk).2.1, moM_f hq hk]
theorem moM_o {a : Nat} (h1 : a ≠ m) (h2 : ∀ k ∈ moAr, q k ≠ a) : moM R m q s a = R a := by
  unfold moM
  rw [if_neg h1]
  have : moAr.find? (fun k => q k == a) = none := List.find?_eq_none.mpr fun k hk => by
    intro hb
    exact h2 k hk (eq_of_beq hb)
  rw [this]
/-- a row is written -/
theorem moM_up (hq : moQ base m q) {k : Nat} (hk : k ∈ moAr) (hV : ∀ j, moV q s' j = moV q s j) (hE : ∀ j, j ≠ k → moA s' j = moA s j) : pm_up (moM R m q s) (q k) (moA s' k) = moM R m q s' := by
  funext a
  by_cases ha : a = q k
  · subst ha
    rw [pm_up_self, moM_q hq hk]
  · rw [pm_up_ne _ _ ha]
    unfold moM
    by_cases hm : a = m
    · rw [if_pos hm, if_pos hm, show moV q s' = moV q s from funext hV]
    · rw [if_neg hm, if_neg hm]
      cases hf : moAr.find? (fun j => q j == a) with
      | none => rfl
      | some j =>
        have hj : j ≠ k := fun e => ha (by have h1 := List.find?_some hf; rw [← e]; exact (eq_of_beq h1).symm)
        show some (moA s j) = some (moA s' j)
        rw [hE j hj]
/-- a field is written -/
theorem moM_um {k : Nat} {v : Value} (hV : ∀ j, j < 166 → moV q s' j = upF (moV q s) k v j) (hE : ∀ j, moA s' j = moA s j) : pm_up (moM R m q s) m (.inr (12, moL (upF (moV q s) k v))) = moM R m q s' := by
  funext a
  by_cases ha : a = m
  · subst ha
    rw [pm_up_self, moM_m]
    have : moL (upF (moV q s) k v) = moL (moV q s') := by
      unfold moL
      exact List.map_congr_left fun j hj => (hV j (List.mem_range.mp hj)).symm
    rw [this]
  · rw [pm_up_ne _ _ ha]
    unfold moM
    rw [if_neg ha, if_neg ha]
    cases moAr.find? (fun j => q j == a) with
    | none => rfl
    | some j => show some (moA s j) = some (moA s' j); rw [hE j]
def moSS (s : moS) (k : Nat) (v : Int32) : moS := (fun j => if j = k then v else s.S j, s.2)
def moSZ (s : moS) (k : Nat) (v : Int64) : moS := (s.1, fun j => if j = k then v else s.Z j, s.2.2)
def moSI (s : moS) (k i : Nat) (v : Int32) : moS := (s.1, s.2.1, fun j => if j = k then upd (s.I k) i v else s.I j, s.2.2.2)
def moSJ (s : moS) (k i : Nat) (v : Int64) : moS := (s.1, s.2.1, s.2.2.1, fun j => if j = k then vp_updL (s.J k) i v else s.J j, s.2.2.2.2)
theorem moSS_s {k : Nat} {v : Int32} : (moSS s k v).S k = v := if_pos rfl
theorem moSS_n {k j : Nat} {v : Int32} (h : j ≠ k) : (moSS s k v).S j = s.S j := if_neg h
theorem moSZ_s {k : Nat} {v : Int64} : (moSZ s k v).Z k = v := if_pos rfl
theorem moSZ_n {k j : Nat} {v : Int64} (h : j ≠ k) : (moSZ s k v).Z j = s.Z j := if_neg h
theorem moSI_s {k i : Nat} {v : Int32} : (moSI s k i v).I k = upd (s.I k) i v := if_pos rfl
theorem moSI_n {k j i : Nat} {v : Int32} (h : j ≠ k) : (moSI s k i v).I j = s.I j := if_neg h
theorem moSJ_s {k i : Nat} {v : Int64} : (moSJ s k i v).J k = vp_updL (s.J k) i v := if_pos rfl
theorem moSJ_n {k j i : Nat} {v : Int64} (h : j ≠ k) : (moSJ s k i v).J j = s.J j := if_neg h
theorem moM_ss {k : Nat} {v : Int32} (hd : moKd k = 0) : pm_up (moM R m q s) m (.inr (12, moL (upF (moV q s) k (.int v)))) = moM R m q (moSS s k v) := by
  refine moM_um (fun j _ => ?_) (fun j => rfl)
  by_cases hj : j = k
  · subst hj
    rw [upF_s]
    unfold moV
    rw [hd]
    show Value.int (if j = j then v else _) = _
    rw [if_pos rfl]
  · rw [upF_n _ _ hj]
    unfold moV
    have : (moSS s k v).S j = s.S j := if_neg hj
    split
    · rw [this]
    · rfl
    · rfl
theorem moM_sz {k : Nat} {v : Int64} (hd : moKd k = 1) : pm_up (moM R m q s) m (.inr (12, moL (upF (moV q s) k (.long v)))) = moM R m q (moSZ s k v) := by
  refine moM_um (fun j _ => ?_) (fun j => rfl)
  by_cases hj : j = k
  · subst hj
    rw [upF_s]
    unfold moV
    rw [hd]
    show Value.long (if j = j then v else _) = _
    rw [if_pos rfl]
  · rw [upF_n _ _ hj]
    unfold moV
    have : (moSZ s k v).Z j = s.Z j := if_neg hj
    split
    · rfl
    · rw [this]
    · rfl
theorem moA_i {k : Nat} (hd : moKd k = 2) : moA s k = .inl (.int, s.N k, .inl (s.I k)) := by unfold moA; rw [hd]; rfl
theorem moA_z {k : Nat} (hd : moKd k = 3) : moA s k = .inl (.boolean, s.N k, .inl (s.I k)) := by unfold moA; rw [hd]; rfl
theorem moA_l {k : Nat} (hd : moKd k = 4) : moA s k = .inl (.long, s.N k, .inr (.inl (s.J k))) := by unfold moA; rw [hd]; rfl
theorem moSI_ne {k j i : Nat} {v : Int32} (h : j ≠ k) : moA (moSI s k i v) j = moA s j := by
  unfold moA
  have : (moSI s k i v).I j = s.I j := if_neg h
  split
  · rw [this]; rfl
  · rw [this]; rfl
  · rfl
theorem moSJ_ne {k j i : Nat} {v : Int64} (h : j ≠ k) : moA (moSJ s k i v) j = moA s j := by
  unfold moA
  have : (moSJ s k i v).J j = s.J j := if_neg h
  split
  · rfl
  · rfl
  · rw [this]; rfl
theorem moM_si (hq : moQ base m q) {k i : Nat} {v : Int32} (hk : Nat.ble (k + 1) 166 = true) (hd : moKd k = 2) : pm_up (moM R m q s) (q k) (.inl (.int, s.N k, .inl (upd (s.I k) i v))) = moM R m q (moSI s k i v) := by
  have h := moM_up (R := R) (s := s) (s' := moSI s k i v) hq (mo_mem hk (by rw [hd]; rfl)) (fun j => rfl) (fun j hj => moSI_ne hj)
  rw [moA_i hd, show (moSI s k i v).I k = upd (s.I k) i v from if_pos rfl] at h
  exact h
theorem moM_sb (hq : moQ base m q) {k i : Nat} {v : Int32} (hk : Nat.ble (k + 1) 166 = true) (hd : moKd k = 3) : pm_up (moM R m q s) (q k) (.inl (.boolean, s.N k, .inl (upd (s.I k) i v))) = moM R m q (moSI s k i v) := by
  have h := moM_up (R := R) (s := s) (s' := moSI s k i v) hq (mo_mem hk (by rw [hd]; rfl)) (fun j => rfl) (fun j hj => moSI_ne hj)
  rw [moA_z hd, show (moSI s k i v).I k = upd (s.I k) i v from if_pos rfl] at h
  exact h
theorem moM_sl (hq : moQ base m q) {k i : Nat} {v : Int64} (hk : Nat.ble (k + 1) 166 = true) (hd : moKd k = 4) : pm_up (moM R m q s) (q k) (.inl (.long, s.N k, .inr (.inl (vp_updL (s.J k) i v)))) = moM R m q (moSJ s k i v) := by
  have h := moM_up (R := R) (s := s) (s' := moSJ s k i v) hq (mo_mem hk (by rw [hd]; rfl)) (fun j => rfl) (fun j hj => moSJ_ne hj)
  rw [moA_l hd, show (moSJ s k i v).J k = vp_updL (s.J k) i v from if_pos rfl] at h
  exact h
end MoMem
section MoRows2
variable {cl : List vw_C} {base : Nat} {X : pmX} {Rt : pmR} {G : pmK} {pc : Nat} {L : pmL} {st : List Value} {R : pmM} {m : Nat} {q : Nat → Nat} {s : moS} {kc ks : Nat}
/-- fields of the model, read -/
theorem mo_gi (hG : pm_cl cl base X Rt G) {i k : Nat} {ty : FieldType} {w : Bool} (hc : X.code pc = some (.getfield i)) (hf : X.fld i = some (12, k, ty, w)) (hk : Nat.ble (k + 1) 166 = true) (hd : moKd k = 0) (h : G (pc + 3) L (.int (s.S k) :: st) (moM R m q s) kc ks) : G pc L (.ref m :: st) (moM R m q s) kc ks := pg_gm hG hc hf moM_m hk (by unfold moV; rw [hd]; rfl) h
theorem mo_gz (hG : pm_cl cl base X Rt G) {i k : Nat} {ty : FieldType} {w : Bool} (hc : X.code pc = some (.getfield i)) (hf : X.fld i = some (12, k, ty, w)) (hk : Nat.ble (k + 1) 166 = true) (hd : moKd k = 1) (h : G (pc + 3) L (.long (s.Z k) :: st) (moM R m q s) kc ks) : G pc L (.ref m :: st) (moM R m q s) kc ks := pg_gm hG hc hf moM_m hk (by unfold moV; rw [hd]; rfl) h
theorem moV_r {k : Nat} (hd : Nat.ble 2 (moKd k) = true) : moV q s k = .ref (q k) := by
  unfold moV
  split
  · rename_i e; rw [e] at hd; cases hd
  · rename_i e; rw [e] at hd; cases hd
  · rfl
theorem mo_gr (hG : pm_cl cl base X Rt G) {i k : Nat} {ty : FieldType} {w : Bool} (hc : X.code pc = some (.getfield i)) (hf : X.fld i = some (12, k, ty, w)) (hk : Nat.ble (k + 1) 166 = true) (hd : Nat.ble 2 (moKd k) = true) (h : G (pc + 3) L (.ref (q k) :: st) (moM R m q s) kc ks) : G pc L (.ref m :: st) (moM R m q s) kc ks := pg_gm hG hc hf moM_m hk (moV_r hd) h
/-- fields of the model, written -/
theorem mo_pi (hG : pm_cl cl base X Rt G) (hq : moQ base m q) {i k : Nat} {v : Int32} (hc : X.code pc = some (.putfield i)) (hf : X.fld i = some (12, k, .int, true)) (hk : Nat.ble (k + 1) 166 = true) (hd : moKd k = 0) (h : G (pc + 3) L st (moM R m q (moSS s k v)) kc ks) : G pc L (.int v :: .ref m :: st) (moM R m q s) kc ks := by
  refine pg_pm hG hc hf moM_m hq.1 hk rfl rfl ?_
  rw [moM_ss hd]
  exact h
theorem mo_pz (hG : pm_cl cl base X Rt G) (hq : moQ base m q) {i k : Nat} {v : Int64} (hc : X.code pc = some (.putfield i)) (hf : X.fld i = some (12, k, .long, true)) (hk : Nat.ble (k + 1) 166 = true) (hd : moKd k = 1) (h : G (pc + 3) L st (moM R m q (moSZ s k v)) kc ks) : G pc L (.long v :: .ref m :: st) (moM R m q s) kc ks := by
  refine pg_pm hG hc hf moM_m hq.1 hk rfl rfl ?_
  rw [moM_sz hd]
  exact h
/-- rows of the model, read -/
theorem mo_ia (hG : pm_cl cl base X Rt G) (hq : moQ base m q) {k : Nat} {i : Int32} (hc : X.code pc = some .iaload) (hk : Nat.ble (k + 1) 166 = true) (hd : moKd k = 2) (hi : vp_in i (s.N k)) (h : G (pc + 1) L (.int (s.I k i.toNatClampNeg) :: st) (moM R m q s) kc ks) : G pc L (.int i :: .ref (q k) :: st) (moM R m q s) kc ks := pg_ia hG hc ((moM_q hq (mo_mem hk (by rw [hd]; rfl))).trans (by rw [moA_i hd])) hi h
theorem mo_ba (hG : pm_cl cl base X Rt G) (hq : moQ base m q) {k : Nat} {i : Int32} (hc : X.code pc = some .baload) (hk : Nat.ble (k + 1) 166 = true) (hd : moKd k = 3) (hi : vp_in i (s.N k)) (h : G (pc + 1) L (.int (s.I k i.toNatClampNeg) :: st) (moM R m q s) kc ks) : G pc L (.int i :: .ref (q k) :: st) (moM R m q s) kc ks := pg_za hG hc ((moM_q hq (mo_mem hk (by rw [hd]; rfl))).trans (by rw [moA_z hd])) hi h
theorem mo_la (hG : pm_cl cl base X Rt G) (hq : moQ base m q) {k : Nat} {i : Int32} (hc : X.code pc = some .laload) (hk : Nat.ble (k + 1) 166 = true) (hd : moKd k = 4) (hi : vp_in i (s.N k)) (h : G (pc + 1) L (.long (s.J k i.toNatClampNeg) :: st) (moM R m q s) kc ks) : G pc L (.int i :: .ref (q k) :: st) (moM R m q s) kc ks := pg_la hG hc ((moM_q hq (mo_mem hk (by rw [hd]; rfl))).trans (by rw [moA_l hd])) hi h
theorem mo_al (hG : pm_cl cl base X Rt G) (hq : moQ base m q) {k : Nat} (hc : X.code pc = some .arraylength) (hk : Nat.ble (k + 1) 166 = true) (hd : Nat.ble 2 (moKd k) = true) (h : G (pc + 1) L (.int (nI (s.N k)) :: st) (moM R m q s) kc ks) : G pc L (.ref (q k) :: st) (moM R m q s) kc ks := by
  have hM := moM_q (R := R) (s := s) hq (mo_mem hk hd)
  unfold moA at hM
  split at hM
  · exact pg_al hG hc hM h
  · exact pg_al hG hc hM h
  · exact pg_al hG hc hM h
/-- rows of the model, written -/
theorem mo_is (hG : pm_cl cl base X Rt G) (hq : moQ base m q) {k : Nat} {i x : Int32} (hc : X.code pc = some .iastore) (hk : Nat.ble (k + 1) 166 = true) (hd : moKd k = 2) (hi : vp_in i (s.N k)) (h : G (pc + 1) L st (moM R m q (moSI s k i.toNatClampNeg x)) kc ks) : G pc L (.int x :: .int i :: .ref (q k) :: st) (moM R m q s) kc ks := by
  have hm := mo_mem hk (show Nat.ble 2 (moKd k) = true by rw [hd]; rfl)
  refine pg_is hG hc ((moM_q hq hm).trans (by rw [moA_i hd])) (hq.2 k hm).1 hi ?_
  rw [moM_si hq hk hd]
  exact h
theorem mo_bs (hG : pm_cl cl base X Rt G) (hq : moQ base m q) {k : Nat} {i x : Int32} (hc : X.code pc = some .bastore) (hk : Nat.ble (k + 1) 166 = true) (hd : moKd k = 3) (hi : vp_in i (s.N k)) (h : G (pc + 1) L st (moM R m q (moSI s k i.toNatClampNeg (vp_nar .boolean x))) kc ks) : G pc L (.int x :: .int i :: .ref (q k) :: st) (moM R m q s) kc ks := by
  have hm := mo_mem hk (show Nat.ble 2 (moKd k) = true by rw [hd]; rfl)
  refine hG.1 _ _ _ _ _ _ _ hc (pg_ai (ok := pm_isByte) ((moM_q hq hm).trans (by rw [moA_z hd])) rfl ⟨(hq.2 k hm).1, hi, ?_⟩)
  rw [moM_sb hq hk hd]
  exact h
theorem mo_ls (hG : pm_cl cl base X Rt G) (hq : moQ base m q) {k : Nat} {i : Int32} {x : Int64} (hc : X.code pc = some .lastore) (hk : Nat.ble (k + 1) 166 = true) (hd : moKd k = 4) (hi : vp_in i (s.N k)) (h : G (pc + 1) L st (moM R m q (moSJ s k i.toNatClampNeg x)) kc ks) : G pc L (.long x :: .int i :: .ref (q k) :: st) (moM R m q s) kc ks := by
  have hm := mo_mem hk (show Nat.ble 2 (moKd k) = true by rw [hd]; rfl)
  refine pg_ls hG hc ((moM_q hq hm).trans (by rw [moA_l hd])) (hq.2 k hm).1 hi ?_
  rw [moM_sl hq hk hd]
  exact h
end MoRows2
