/-! The class's memory as one value: for each field a map over the objects. -/
def cNs : List Nat := [2, 12, 12, 8, 19, 4, 6, 12, 11, 20, 2, 20, 0, 4, 6]
def cNf (c : Nat) : Nat := cNs.getD c 0
def cKs : List (List Nat) := [[2, 0], [0, 2, 0, 2, 2, 2, 2, 2, 2, 0, 2, 2], [2, 2, 2, 0, 0, 0, 0, 2, 2, 0, 0, 0], [2, 0, 0, 0, 0, 0, 0, 2], [2, 2, 2, 0, 0, 0, 2, 2, 0, 2, 2, 2, 0, 0, 0, 0, 2, 2, 0], [0, 1, 1, 0], [2, 2, 2, 2, 2, 0], [2, 2, 2, 0, 0, 0, 2, 2, 0, 0, 0, 2], [2, 2, 2, 0, 0, 0, 2, 0, 0, 0, 0], [2, 2, 0, 0, 2, 0, 2, 2, 2, 2, 0, 2, 0, 2, 2, 2, 2, 0, 0, 0], [2, 0], [2, 2, 2, 2, 0, 0, 2, 0, 2, 0, 2, 0, 2, 0, 2, 0, 2, 2, 2, 2], [], [2, 0, 0, 0], [2, 2, 2, 2, 2, 0]]
/-- the sort of field k of kind c, by the number 20 * c + k: 0 a number, 1 a long number, 2 a reference -/
def cKd (g : Nat) : Nat := (cKs.getD (g / 20) []).getD (g % 20) 0
/-- the kind of an object, by the part that it plays -/
def cRl : List Nat := [0, 0, 0, 0, 1, 1, 2, 3, 4, 5, 5, 5, 5, 5, 5, 5, 5, 5, 5, 5, 6, 6, 7, 8, 8, 8, 9, 10, 10, 10, 11, 13, 0, 5, 5, 5, 5, 5, 5, 5]
def cKn (u : Nat) : Nat := cRl.getD u 0
/-- the type of a row's elements, by the part that it plays: numbers from 100 on, references from 130 on -/
def cAT (t : Nat) : FieldType := match t with
  | 100 => .int
  | 101 => .byte
  | 102 => .boolean
  | 103 => .byte
  | 104 => .int
  | 105 => .int
  | 106 => .int
  | 107 => .int
  | 108 => .int
  | 109 => .int
  | 110 => .int
  | 111 => .int
  | 112 => .int
  | 113 => .int
  | 114 => .int
  | 115 => .int
  | 116 => .boolean
  | 117 => .char
  | 118 => .byte
  | 124 => .byte
  | 125 => .byte
  | 126 => .byte
  | 127 => .byte
  | 129 => .byte
  | 130 => .object "RoutingField$Link"
  | 131 => .object "RoutingField$Router"
  | 132 => .object "RoutingField$PrefixList"
  | 133 => .object "RoutingField$Datagram"
  | 134 => .object "RoutingField$Datagram"
  | 135 => .object "RoutingField$Route"
  | 136 => .object "RoutingField$Prefix"
  | 137 => .object "RoutingField$Prefix"
  | 138 => .object "RoutingField$Prefix"
  | 139 => .object "RoutingField$Port"
  | 140 => .array .int
  | 141 => .array .int
  | 142 => .array .byte
  | 143 => .object "RoutingField$PrefixList"
  | 144 => .object "RoutingField$Route"
  | 145 => .object "RoutingField$Route"
  | _ => .int
/-- what stands at an address (0 what isn't ours, up to 99 objects, from 100 on rows, from 160 on what is forgotten; a row's length); numbers, long numbers, references by field and address; rows of numbers, rows of references -/
abbrev cS : Type := (Nat → Nat × Nat) × (Nat → Nat → Int32) × (Nat → Nat → Int64) × (Nat → Nat → Option Nat) × (Nat → Nat → Int32) × (Nat → Nat → Option Nat)
abbrev cS.K (s : cS) : Nat → Nat × Nat := s.1
abbrev cS.I (s : cS) : Nat → Nat → Int32 := s.2.1
abbrev cS.J (s : cS) : Nat → Nat → Int64 := s.2.2.1
abbrev cS.P (s : cS) : Nat → Nat → Option Nat := s.2.2.2.1
abbrev cS.E (s : cS) : Nat → Nat → Int32 := s.2.2.2.2.1
abbrev cS.Q (s : cS) : Nat → Nat → Option Nat := s.2.2.2.2.2
def cV (s : cS) (g a : Nat) : Value := match cKd g with
  | 0 => .int (s.I g a)
  | 1 => .long (s.J g a)
  | _ => va_rf (s.P g a)
def cEt (s : cS) (a : Nat) : Nat × Nat → Option pmE := fun t => if t.1 < 100 then some (.inr (cKn t.1, obL (cNf (cKn t.1)) (fun k => cV s (20 * cKn t.1 + k) a))) else if t.1 < 130 then some (.inl (cAT t.1, t.2, .inl (s.E a))) else if t.1 < 160 then some (.inl (cAT t.1, t.2, .inr (.inr (.inr (.inr (s.Q a)))))) else none
def cM (R : pmM) (s : cS) : pmM := fun a => if (s.K a).1 = 0 then R a else cEt s a (s.K a)
def isO (s : cS) (u a : Nat) : Prop := (s.K a).1 = u
def isA (s : cS) (t n a : Nat) : Prop := s.K a = (t, n)
/-- ours is what may be written -/
def cB (base : Nat) (s : cS) : Prop := ∀ a, (s.K a).1 ≠ 0 → base ≤ a
section CMem
variable {R : pmM} {s : cS} {base : Nat}
theorem cM_r {a : Nat} (h : (s.K a).1 = 0) : cM R s a = R a := if_pos h
theorem cM_o {u c a : Nat} (h : isO s u a) (hu : Nat.ble 1 u = true) (hv : Nat.ble (u + 1) 100 = true) (hc : cKn u = c) : cM R s a = some (.inr (c, obL (cNf c) (fun k => cV s (20 * c + k) a))) := by
  have hu := Nat.le_of_ble_eq_true hu
  have hv := Nat.le_of_ble_eq_true hv
  have h : (s.K a).1 = u := h
  subst hc
  unfold cM
  rw [h, if_neg (by omega)]
  unfold cEt
  rw [h, if_pos (by omega)]
theorem cM_i {t n a : Nat} (h : isA s t n a) (h1 : Nat.ble 100 t = true) (h2 : Nat.ble (t + 1) 130 = true) : cM R s a = some (.inl (cAT t, n, .inl (s.E a))) := by
  have h1 := Nat.le_of_ble_eq_true h1
  have h2 := Nat.le_of_ble_eq_true h2
  have h : s.K a = (t, n) := h
  unfold cM
  rw [h, if_neg (show ¬ t = 0 by omega)]
  unfold cEt
  rw [if_neg (show ¬ t < 100 by omega), if_pos (show t < 130 by omega)]
theorem cM_q {t n a : Nat} (h : isA s t n a) (h1 : Nat.ble 130 t = true) (h2 : Nat.ble (t + 1) 160 = true) : cM R s a = some (.inl (cAT t, n, .inr (.inr (.inr (.inr (s.Q a)))))) := by
  have h1 := Nat.le_of_ble_eq_true h1
  have h2 := Nat.le_of_ble_eq_true h2
  have h : s.K a = (t, n) := h
  unfold cM
  rw [h, if_neg (show ¬ t = 0 by omega)]
  unfold cEt
  rw [if_neg (show ¬ t < 100 by omega), if_neg (show ¬ t < 130 by omega), if_pos (show t < 160 by omega)]
theorem isO.b (hB : cB base s) {u a : Nat} (h : isO s u a) (hu : Nat.ble 1 u = true) : base ≤ a := hB a (by rw [show (s.K a).1 = u from h]; have := Nat.le_of_ble_eq_true hu; omega)
theorem isA.b (hB : cB base s) {t n a : Nat} (h : isA s t n a) (h1 : Nat.ble 100 t = true) : base ≤ a := hB a (by rw [show s.K a = (t, n) from h]; have := Nat.le_of_ble_eq_true h1; show t ≠ 0; omega)
/-- two states that differ at one address alone -/
theorem cM_up {s' : cS} {a : Nat} {e : pmE} (hK : s'.K = s.K) (h0 : (s.K a).1 ≠ 0) (he : cEt s' a (s.K a) = some e) (ho : ∀ b, b ≠ a → cEt s' b (s.K b) = cEt s b (s.K b)) : pm_up (cM R s) a e = cM R s' := by
  funext b
  by_cases hb : b = a
  · subst hb
    rw [pm_up_self]
    unfold cM
    rw [hK, if_neg h0, he]
  · rw [pm_up_ne _ _ hb]
    unfold cM
    rw [hK, ho b hb]
def cSI (s : cS) (g a : Nat) (v : Int32) : cS := (s.1, fun g' b => if g' = g then (if b = a then v else s.I g' b) else s.I g' b, s.2.2)
def cSJ (s : cS) (g a : Nat) (v : Int64) : cS := (s.1, s.2.1, fun g' b => if g' = g then (if b = a then v else s.J g' b) else s.J g' b, s.2.2.2)
def cSP (s : cS) (g a : Nat) (v : Option Nat) : cS := (s.1, s.2.1, s.2.2.1, fun g' b => if g' = g then (if b = a then v else s.P g' b) else s.P g' b, s.2.2.2.2)
def cSE (s : cS) (a i : Nat) (v : Int32) : cS := (s.1, s.2.1, s.2.2.1, s.2.2.2.1, fun b => if b = a then upd (s.E a) i v else s.E b, s.2.2.2.2.2)
def cSQ (s : cS) (a i : Nat) (v : Option Nat) : cS := (s.1, s.2.1, s.2.2.1, s.2.2.2.1, s.2.2.2.2.1, fun b => if b = a then va_up (s.Q a) i v else s.Q b)
theorem cSI_s {g a : Nat} {v : Int32} : (cSI s g a v).I g a = v := by show (if g = g then (if a = a then v else _) else _) = v; rw [if_pos rfl, if_pos rfl]
theorem cSI_a {g a b : Nat} {v : Int32} (h : b ≠ a) : (cSI s g a v).I g b = s.I g b := by show (if g = g then (if b = a then v else _) else _) = _; rw [if_pos rfl, if_neg h]
theorem cSI_g {g g' a b : Nat} {v : Int32} (h : g' ≠ g) : (cSI s g a v).I g' b = s.I g' b := if_neg h
theorem cSJ_s {g a : Nat} {v : Int64} : (cSJ s g a v).J g a = v := by show (if g = g then (if a = a then v else _) else _) = v; rw [if_pos rfl, if_pos rfl]
theorem cSJ_a {g a b : Nat} {v : Int64} (h : b ≠ a) : (cSJ s g a v).J g b = s.J g b := by show (if g = g then (if b = a then v else _) else _) = _; rw [if_pos rfl, if_neg h]
theorem cSJ_g {g g' a b : Nat} {v : Int64} (h : g' ≠ g) : (cSJ s g a v).J g' b = s.J g' b := if_neg h
theorem cSP_s {g a : Nat} {v : Option Nat} : (cSP s g a v).P g a = v := by show (if g = g then (if a = a then v else _) else _) = v; rw [if_pos rfl, if_pos rfl]
theorem cSP_a {g a b : Nat} {v : Option Nat} (h : b ≠ a) : (cSP s g a v).P g b = s.P g b := by show (if g = g then (if b = a then v else _) else _) = _; rw [if_pos rfl, if_neg h]
theorem cSP_g {g g' a b : Nat} {v : Option Nat} (h : g' ≠ g) : (cSP s g a v).P g' b = s.P g' b := if_neg h
theorem cSE_s {a i : Nat} {v : Int32} : (cSE s a i v).E a = upd (s.E a) i v := if_pos rfl
theorem cSE_a {a b i : Nat} {v : Int32} (h : b ≠ a) : (cSE s a i v).E b = s.E b := if_neg h
theorem cSQ_s {a i : Nat} {v : Option Nat} : (cSQ s a i v).Q a = va_up (s.Q a) i v := if_pos rfl
theorem cSQ_a {a b i : Nat} {v : Option Nat} (h : b ≠ a) : (cSQ s a i v).Q b = s.Q b := if_neg h
/-- a field's other value: the picture -/
theorem cM_f {s' : cS} {c k a : Nat} {v : Value} {u : Nat} (hO : isO s u a) (hu : Nat.ble 1 u = true) (hv' : Nat.ble (u + 1) 100 = true) (hc : cKn u = c) (hK : s'.K = s.K) (hE : s'.E = s.E) (hQ : s'.Q = s.Q) (hv : cV s' (20 * c + k) a = v) (ho : ∀ g b, ¬ (g = 20 * c + k ∧ b = a) → cV s' g b = cV s g b) : pm_up (cM R s) a (.inr (c, obL (cNf c) (upF (fun j => cV s (20 * c + j) a) k v))) = cM R s' := by
  have hu := Nat.le_of_ble_eq_true hu
  have hv' := Nat.le_of_ble_eq_true hv'
  have h1 : (s.K a).1 = u := hO
  subst hc
  refine cM_up hK (by omega) ?_ (fun b hb => ?_)
  · unfold cEt
    rw [h1, if_pos (by omega)]
    show some (Sum.inr (cKn u, obL (cNf (cKn u)) (fun j => cV s' (20 * cKn u + j) a))) = _
    have e : (fun j => cV s' (20 * cKn u + j) a) = upF (fun j => cV s (20 * cKn u + j) a) k v := by
      funext j
      by_cases hj : j = k
      · subst hj
        rw [upF_s, hv]
      · rw [upF_n _ _ hj]
        exact ho _ _ (fun z => hj (by omega))
    rw [e]
  · unfold cEt
    have e : (fun k => cV s' (20 * cKn (s.K b).1 + k) b) = fun k => cV s (20 * cKn (s.K b).1 + k) b := funext fun j => ho _ _ (fun z => hb z.2)
    rw [e, hE, hQ]
theorem cM_si {c k a : Nat} {v : Int32} {u : Nat} (hO : isO s u a) (hu : Nat.ble 1 u = true) (hv' : Nat.ble (u + 1) 100 = true) (hc : cKn u = c) (hd : cKd (20 * c + k) = 0) : pm_up (cM R s) a (.inr (c, obL (cNf c) (upF (fun j => cV s (20 * c + j) a) k (.int v)))) = cM R (cSI s (20 * c + k) a v) := by
  refine cM_f hO hu hv' hc rfl rfl rfl ?_ (fun g b hgb => ?_)
  · unfold cV
    rw [hd]
    show Value.int _ = _
    rw [cSI_s]
  · unfold cV
    have e : (cSI s (20 * c + k) a v).I g b = s.I g b := by
      by_cases hg : g = 20 * c + k
      · subst hg
        exact cSI_a (fun e => hgb ⟨rfl, e⟩)
      · exact cSI_g hg
    rw [e]
    rfl
theorem cM_sj {c k a : Nat} {v : Int64} {u : Nat} (hO : isO s u a) (hu : Nat.ble 1 u = true) (hv' : Nat.ble (u + 1) 100 = true) (hc : cKn u = c) (hd : cKd (20 * c + k) = 1) : pm_up (cM R s) a (.inr (c, obL (cNf c) (upF (fun j => cV s (20 * c + j) a) k (.long v)))) = cM R (cSJ s (20 * c + k) a v) := by
  refine cM_f hO hu hv' hc rfl rfl rfl ?_ (fun g b hgb => ?_)
  · unfold cV
    rw [hd]
    show Value.long _ = _
    rw [cSJ_s]
  · unfold cV
    have e : (cSJ s (20 * c + k) a v).J g b = s.J g b := by
      by_cases hg : g = 20 * c + k
      · subst hg
        exact cSJ_a (fun e => hgb ⟨rfl, e⟩)
      · exact cSJ_g hg
    rw [e]
    rfl
theorem cM_sp {c k a : Nat} {v : Option Nat} {u : Nat} (hO : isO s u a) (hu : Nat.ble 1 u = true) (hv' : Nat.ble (u + 1) 100 = true) (hc : cKn u = c) (hd : cKd (20 * c + k) = 2) : pm_up (cM R s) a (.inr (c, obL (cNf c) (upF (fun j => cV s (20 * c + j) a) k (va_rf v)))) = cM R (cSP s (20 * c + k) a v) := by
  refine cM_f hO hu hv' hc rfl rfl rfl ?_ (fun g b hgb => ?_)
  · unfold cV
    rw [hd]
    show va_rf _ = _
    rw [cSP_s]
  · unfold cV
    have e : (cSP s (20 * c + k) a v).P g b = s.P g b := by
      by_cases hg : g = 20 * c + k
      · subst hg
        exact cSP_a (fun e => hgb ⟨rfl, e⟩)
      · exact cSP_g hg
    rw [e]
    rfl
theorem cM_se {t n a i : Nat} {v : Int32} (hA : isA s t n a) (h1 : Nat.ble 100 t = true) (h2 : Nat.ble (t + 1) 130 = true) : pm_up (cM R s) a (.inl (cAT t, n, .inl (upd (s.E a) i v))) = cM R (cSE s a i v) := by
  have h1 := Nat.le_of_ble_eq_true h1
  have h2 := Nat.le_of_ble_eq_true h2
  have h : s.K a = (t, n) := hA
  refine cM_up rfl (by rw [h]; show t ≠ 0; omega) ?_ (fun b hb => ?_)
  · unfold cEt
    rw [h, if_neg (show ¬ t < 100 by omega), if_pos (show t < 130 by omega), cSE_s]
  · unfold cEt
    rw [cSE_a hb]
    rfl
theorem cM_sq {t n a i : Nat} {v : Option Nat} (hA : isA s t n a) (h1 : Nat.ble 130 t = true) (h2 : Nat.ble (t + 1) 160 = true) : pm_up (cM R s) a (.inl (cAT t, n, .inr (.inr (.inr (.inr (va_up (s.Q a) i v)))))) = cM R (cSQ s a i v) := by
  have h1 := Nat.le_of_ble_eq_true h1
  have h2 := Nat.le_of_ble_eq_true h2
  have h : s.K a = (t, n) := hA
  refine cM_up rfl (by rw [h]; show t ≠ 0; omega) ?_ (fun b hb => ?_)
  · unfold cEt
    rw [h, if_neg (show ¬ t < 100 by omega), if_neg (show ¬ t < 130 by omega), if_pos (show t < 160 by omega), cSQ_s]
  · unfold cEt
    rw [cSQ_a hb]
    rfl
/-- something new stands at q: its sort; all its fields and places are 0 -/
def cNw (s : cS) (q : Nat) (t : Nat × Nat) : cS := (fun b => if b = q then t else s.K b, fun g b => if b = q then 0 else s.I g b, fun g b => if b = q then 0 else s.J g b, fun g b => if b = q then none else s.P g b, fun b => if b = q then (fun _ => 0) else s.E b, fun b => if b = q then (fun _ => none) else s.Q b)
theorem cNw_kn {q b : Nat} {t : Nat × Nat} (h : b ≠ q) : (cNw s q t).K b = s.K b := if_neg h
theorem cNw_ks {q : Nat} {t : Nat × Nat} : (cNw s q t).K q = t := if_pos rfl
theorem cNw_in {q b g : Nat} {t : Nat × Nat} (h : b ≠ q) : (cNw s q t).I g b = s.I g b := if_neg h
theorem cNw_jn {q b g : Nat} {t : Nat × Nat} (h : b ≠ q) : (cNw s q t).J g b = s.J g b := if_neg h
theorem cNw_pn {q b g : Nat} {t : Nat × Nat} (h : b ≠ q) : (cNw s q t).P g b = s.P g b := if_neg h
theorem cNw_en {q b : Nat} {t : Nat × Nat} (h : b ≠ q) : (cNw s q t).E b = s.E b := if_neg h
theorem cNw_qn {q b : Nat} {t : Nat × Nat} (h : b ≠ q) : (cNw s q t).Q b = s.Q b := if_neg h
theorem cNw_is {q g : Nat} {t : Nat × Nat} : (cNw s q t).I g q = 0 := if_pos rfl
theorem cNw_js {q g : Nat} {t : Nat × Nat} : (cNw s q t).J g q = 0 := if_pos rfl
theorem cNw_ps {q g : Nat} {t : Nat × Nat} : (cNw s q t).P g q = none := if_pos rfl
theorem cNw_es {q : Nat} {t : Nat × Nat} : (cNw s q t).E q = fun _ => 0 := if_pos rfl
theorem cNw_qs {q : Nat} {t : Nat × Nat} : (cNw s q t).Q q = fun _ => none := if_pos rfl
theorem cM_nw {q : Nat} {t : Nat × Nat} {e : pmE} (ht : t.1 ≠ 0) (he : cEt (cNw s q t) q t = some e) : pm_up (cM R s) q e = cM R (cNw s q t) := by
  funext b
  by_cases hb : b = q
  · subst hb
    rw [pm_up_self]
    unfold cM
    rw [cNw_ks, if_neg ht, he]
  · rw [pm_up_ne _ _ hb]
    unfold cM
    rw [cNw_kn hb]
    have e1 : (fun k => cV (cNw s q t) (20 * cKn (s.K b).1 + k) b) = fun k => cV s (20 * cKn (s.K b).1 + k) b := by
      funext k
      unfold cV
      rw [cNw_in hb, cNw_jn hb, cNw_pn hb]
    unfold cEt
    rw [e1, cNw_en hb, cNw_qn hb]
theorem cM_fr {q : Nat} (h : cM R s q = none) (h99 : (s.K q).1 < 160) : (s.K q).1 = 0 ∧ R q = none := by
  unfold cM at h
  by_cases h0 : (s.K q).1 = 0
  · rw [if_pos h0] at h
    exact ⟨h0, h⟩
  · rw [if_neg h0] at h
    unfold cEt at h
    split at h
    · cases h
    · split at h
      · cases h
      · cases h
end CMem
section CRows
variable {base : Nat} {X : pmX} {Rt : pmR} {G : pmK} {pc : Nat} {L : pmL} {st : List Value} {R : pmM} {s : cS} {kc ks : Nat}
theorem c_gi (hG : pm_cl kcl base X Rt G) {i c k a : Nat} {ty : FieldType} {w : Bool} (hc : X.code pc = some (.getfield i)) (hf : X.fld i = some (c, k, ty, w)) {u : Nat} (hO : isO s u a) (hu : Nat.ble 1 u = true) (hv' : Nat.ble (u + 1) 100 = true) (hcu : cKn u = c) (hk : Nat.ble (k + 1) (cNf c) = true) (hd : cKd (20 * c + k) = 0) (h : G (pc + 3) L (.int (s.I (20 * c + k) a) :: st) (cM R s) kc ks) : G pc L (.ref a :: st) (cM R s) kc ks := pg_gn hG hc hf (cM_o hO hu hv' hcu) hk (by unfold cV; rw [hd]; rfl) h
theorem c_gj (hG : pm_cl kcl base X Rt G) {i c k a : Nat} {ty : FieldType} {w : Bool} (hc : X.code pc = some (.getfield i)) (hf : X.fld i = some (c, k, ty, w)) {u : Nat} (hO : isO s u a) (hu : Nat.ble 1 u = true) (hv' : Nat.ble (u + 1) 100 = true) (hcu : cKn u = c) (hk : Nat.ble (k + 1) (cNf c) = true) (hd : cKd (20 * c + k) = 1) (h : G (pc + 3) L (.long (s.J (20 * c + k) a) :: st) (cM R s) kc ks) : G pc L (.ref a :: st) (cM R s) kc ks := pg_gn hG hc hf (cM_o hO hu hv' hcu) hk (by unfold cV; rw [hd]; rfl) h
theorem c_gp (hG : pm_cl kcl base X Rt G) {i c k a : Nat} {ty : FieldType} {w : Bool} (hc : X.code pc = some (.getfield i)) (hf : X.fld i = some (c, k, ty, w)) {u : Nat} (hO : isO s u a) (hu : Nat.ble 1 u = true) (hv' : Nat.ble (u + 1) 100 = true) (hcu : cKn u = c) (hk : Nat.ble (k + 1) (cNf c) = true) (hd : cKd (20 * c + k) = 2) (h : G (pc + 3) L (va_rf (s.P (20 * c + k) a) :: st) (cM R s) kc ks) : G pc L (.ref a :: st) (cM R s) kc ks := pg_gn hG hc hf (cM_o hO hu hv' hcu) hk (by unfold cV; rw [hd]; rfl) h
theorem c_gr (hG : pm_cl kcl base X Rt G) {i c k a b : Nat} {ty : FieldType} {w : Bool} (hc : X.code pc = some (.getfield i)) (hf : X.fld i = some (c, k, ty, w)) {u : Nat} (hO : isO s u a) (hu : Nat.ble 1 u = true) (hv' : Nat.ble (u + 1) 100 = true) (hcu : cKn u = c) (hk : Nat.ble (k + 1) (cNf c) = true) (hd : cKd (20 * c + k) = 2) (hp : s.P (20 * c + k) a = some b) (h : G (pc + 3) L (.ref b :: st) (cM R s) kc ks) : G pc L (.ref a :: st) (cM R s) kc ks := c_gp hG hc hf hO hu hv' hcu hk hd (by rw [hp]; exact h)
theorem c_pi (hG : pm_cl kcl base X Rt G) {i c k a : Nat} {ty : FieldType} {v : Int32} (hc : X.code pc = some (.putfield i)) (hf : X.fld i = some (c, k, ty, true)) {u : Nat} (hO : isO s u a) (hB : cB base s) (hu : Nat.ble 1 u = true) (hv' : Nat.ble (u + 1) 100 = true) (hcu : cKn u = c) (hk : Nat.ble (k + 1) (cNf c) = true) (hd : cKd (20 * c + k) = 0) (hn : narrow ty (.int v) = .int v) (hfit : fits ty (.int v) = true) (h : G (pc + 3) L st (cM R (cSI s (20 * c + k) a v)) kc ks) : G pc L (.int v :: .ref a :: st) (cM R s) kc ks :=
  pg_pn hG hc hf (cM_o hO hu hv' hcu) (hO.b hB hu) hk hn hfit (by rw [cM_si hO hu hv' hcu hd]; exact h)
theorem c_pj (hG : pm_cl kcl base X Rt G) {i c k a : Nat} {ty : FieldType} {v : Int64} (hc : X.code pc = some (.putfield i)) (hf : X.fld i = some (c, k, ty, true)) {u : Nat} (hO : isO s u a) (hB : cB base s) (hu : Nat.ble 1 u = true) (hv' : Nat.ble (u + 1) 100 = true) (hcu : cKn u = c) (hk : Nat.ble (k + 1) (cNf c) = true) (hd : cKd (20 * c + k) = 1) (hn : narrow ty (.long v) = .long v) (hfit : fits ty (.long v) = true) (h : G (pc + 3) L st (cM R (cSJ s (20 * c + k) a v)) kc ks) : G pc L (.long v :: .ref a :: st) (cM R s) kc ks :=
  pg_pn hG hc hf (cM_o hO hu hv' hcu) (hO.b hB hu) hk hn hfit (by rw [cM_sj hO hu hv' hcu hd]; exact h)
theorem c_pp (hG : pm_cl kcl base X Rt G) {i c k a : Nat} {ty : FieldType} {v : Option Nat} (hc : X.code pc = some (.putfield i)) (hf : X.fld i = some (c, k, ty, true)) {u : Nat} (hO : isO s u a) (hB : cB base s) (hu : Nat.ble 1 u = true) (hv' : Nat.ble (u + 1) 100 = true) (hcu : cKn u = c) (hk : Nat.ble (k + 1) (cNf c) = true) (hd : cKd (20 * c + k) = 2) (ht : ty.isReference = true) (h : G (pc + 3) L st (cM R (cSP s (20 * c + k) a v)) kc ks) : G pc L (va_rf v :: .ref a :: st) (cM R s) kc ks := by
  have hn : narrow ty (va_rf v) = va_rf v := by
    cases v <;> cases ty <;> first | rfl | cases ht
  have hfit : fits ty (va_rf v) = true := by
    cases v <;> cases ty <;> first | rfl | cases ht
  exact pg_pn hG hc hf (cM_o hO hu hv' hcu) (hO.b hB hu) hk hn hfit (by rw [cM_sp hO hu hv' hcu hd]; exact h)
theorem c_ia (hG : pm_cl kcl base X Rt G) {a n t : Nat} {i : Int32} (hc : X.code pc = some .iaload) (hA : isA s t n a) (h1 : Nat.ble 100 t = true) (h2 : Nat.ble (t + 1) 130 = true) (ht : cAT t = .int) (hi : vp_in i n) (h : G (pc + 1) L (.int (s.E a i.toNatClampNeg) :: st) (cM R s) kc ks) : G pc L (.int i :: .ref a :: st) (cM R s) kc ks := pg_ia hG hc ((cM_i hA h1 h2).trans (by rw [ht])) hi h
theorem c_ba (hG : pm_cl kcl base X Rt G) {a n t : Nat} {i : Int32} (hc : X.code pc = some .baload) (hA : isA s t n a) (h1 : Nat.ble 100 t = true) (h2 : Nat.ble (t + 1) 130 = true) (ht : cAT t = .byte) (hi : vp_in i n) (h : G (pc + 1) L (.int (s.E a i.toNatClampNeg) :: st) (cM R s) kc ks) : G pc L (.int i :: .ref a :: st) (cM R s) kc ks := pg_ba hG hc ((cM_i hA h1 h2).trans (by rw [ht])) hi h
theorem c_za (hG : pm_cl kcl base X Rt G) {a n t : Nat} {i : Int32} (hc : X.code pc = some .baload) (hA : isA s t n a) (h1 : Nat.ble 100 t = true) (h2 : Nat.ble (t + 1) 130 = true) (ht : cAT t = .boolean) (hi : vp_in i n) (h : G (pc + 1) L (.int (s.E a i.toNatClampNeg) :: st) (cM R s) kc ks) : G pc L (.int i :: .ref a :: st) (cM R s) kc ks := pg_za hG hc ((cM_i hA h1 h2).trans (by rw [ht])) hi h
theorem c_aa (hG : pm_cl kcl base X Rt G) {a n t : Nat} {i : Int32} (hc : X.code pc = some .aaload) (hA : isA s t n a) (h1 : Nat.ble 130 t = true) (h2 : Nat.ble (t + 1) 160 = true) (ht : (cAT t).isReference = true) (hi : vp_in i n) (h : G (pc + 1) L (va_rf (s.Q a i.toNatClampNeg) :: st) (cM R s) kc ks) : G pc L (.int i :: .ref a :: st) (cM R s) kc ks := pg_aa hG hc (cM_q hA h1 h2) ht hi h
theorem c_ar (hG : pm_cl kcl base X Rt G) {a n t b : Nat} {i : Int32} (hc : X.code pc = some .aaload) (hA : isA s t n a) (h1 : Nat.ble 130 t = true) (h2 : Nat.ble (t + 1) 160 = true) (ht : (cAT t).isReference = true) (hi : vp_in i n) (hb : s.Q a i.toNatClampNeg = some b) (h : G (pc + 1) L (.ref b :: st) (cM R s) kc ks) : G pc L (.int i :: .ref a :: st) (cM R s) kc ks := c_aa hG hc hA h1 h2 ht hi (by rw [hb]; exact h)
theorem c_is (hG : pm_cl kcl base X Rt G) {a n t : Nat} {i x : Int32} (hc : X.code pc = some .iastore) (hA : isA s t n a) (hB : cB base s) (h1 : Nat.ble 100 t = true) (h2 : Nat.ble (t + 1) 130 = true) (ht : cAT t = .int) (hi : vp_in i n) (h : G (pc + 1) L st (cM R (cSE s a i.toNatClampNeg x)) kc ks) : G pc L (.int x :: .int i :: .ref a :: st) (cM R s) kc ks := by
  have e := cM_se (R := R) (i := i.toNatClampNeg) (v := x) hA h1 h2
  rw [ht] at e
  exact pg_is hG hc ((cM_i hA h1 h2).trans (by rw [ht])) (hA.b hB h1) hi (by rw [e]; exact h)
theorem c_bs (hG : pm_cl kcl base X Rt G) {a n t : Nat} {i x : Int32} (hc : X.code pc = some .bastore) (hA : isA s t n a) (hB : cB base s) (h1 : Nat.ble 100 t = true) (h2 : Nat.ble (t + 1) 130 = true) (ht : cAT t = .byte) (hi : vp_in i n) (h : G (pc + 1) L st (cM R (cSE s a i.toNatClampNeg x.toInt8.toInt32)) kc ks) : G pc L (.int x :: .int i :: .ref a :: st) (cM R s) kc ks := by
  have e := cM_se (R := R) (i := i.toNatClampNeg) (v := x.toInt8.toInt32) hA h1 h2
  rw [ht] at e
  exact pg_bs hG hc ((cM_i hA h1 h2).trans (by rw [ht])) (hA.b hB h1) hi (by rw [e]; exact h)
theorem c_zs (hG : pm_cl kcl base X Rt G) {a n t : Nat} {i x : Int32} (hc : X.code pc = some .bastore) (hA : isA s t n a) (hB : cB base s) (h1 : Nat.ble 100 t = true) (h2 : Nat.ble (t + 1) 130 = true) (ht : cAT t = .boolean) (hi : vp_in i n) (h : G (pc + 1) L st (cM R (cSE s a i.toNatClampNeg (vp_nar .boolean x))) kc ks) : G pc L (.int x :: .int i :: .ref a :: st) (cM R s) kc ks := by
  have e := cM_se (R := R) (i := i.toNatClampNeg) (v := vp_nar .boolean x) hA h1 h2
  rw [ht] at e
  refine hG.1 _ _ _ _ _ _ _ hc (pg_ai (ok := pm_isByte) ((cM_i hA h1 h2).trans (by rw [ht])) rfl ⟨hA.b hB h1, hi, ?_⟩)
  rw [e]
  exact h
theorem c_as (hG : pm_cl kcl base X Rt G) {a n t : Nat} {C : String} {i : Int32} {v : Option Nat} (hc : X.code pc = some .aastore) (hA : isA s t n a) (h1 : Nat.ble 130 t = true) (h2 : Nat.ble (t + 1) 160 = true) (hC : cAT t = .object C) (hB : cB base s) (hi : vp_in i n) (hv : ∀ b, v = some b → ∃ (u : Nat) (w : vw_C), isO s u b ∧ Nat.ble 1 u = true ∧ Nat.ble (u + 1) 100 = true ∧ kcl[cKn u]? = some w ∧ w.1 = C) (h : G (pc + 1) L st (cM R (cSQ s a i.toNatClampNeg v)) kc ks) : G pc L (va_rf v :: .int i :: .ref a :: st) (cM R s) kc ks := by
  have h20 : Nat.ble 100 t = true := Nat.ble_eq_true_of_le (Nat.le_trans (by decide) (Nat.le_of_ble_eq_true h1))
  have key : pm_aq (cM R s) a fun ty n f => ∃ C, ty = .object C ∧ base ≤ a ∧ vp_in i n ∧ (∀ b, v = some b → base ≤ b ∧ ∃ (ci : Nat) (w : vw_C) (fs : List Value), cM R s b = some (.inr (ci, fs)) ∧ kcl[ci]? = some w ∧ w.1 = C) ∧ G (pc + 1) L st (pm_up (cM R s) a (.inl (.object C, n, .inr (.inr (.inr (.inr (va_up f i.toNatClampNeg v))))))) kc ks := by
    unfold pm_aq
    rw [cM_q hA h1 h2]
    refine ⟨C, hC, hA.b hB h20, hi, fun b hb => ?_, ?_⟩
    · obtain ⟨u, w, g1, g2, g2', g3, g4⟩ := hv b hb
      exact ⟨g1.b hB g2, cKn u, w, _, cM_o g1 g2 g2' rfl, g3, g4⟩
    · rw [← hC, cM_sq hA h1 h2]
      exact h
  refine hG.1 _ _ _ _ _ _ _ hc ?_
  cases v with
  | none => exact key
  | some b => exact key
theorem c_al (hG : pm_cl kcl base X Rt G) {a n t : Nat} (hc : X.code pc = some .arraylength) (hA : isA s t n a) (h1 : Nat.ble 100 t = true) (h2 : Nat.ble (t + 1) 160 = true) (h : G (pc + 1) L (.int (nI n) :: st) (cM R s) kc ks) : G pc L (.ref a :: st) (cM R s) kc ks := by
  by_cases h3 : Nat.ble (t + 1) 130 = true
  · exact pg_al hG hc (cM_i hA h1 h3) h
  · refine pg_al hG hc (cM_q hA ?_ h2) h
    refine Nat.ble_eq_true_of_le ?_
    rcases Nat.lt_or_ge t 130 with g | g
    · exact absurd (Nat.ble_eq_true_of_le g) h3
    · exact g
theorem cB_nw {q : Nat} {t : Nat × Nat} (hB : cB base s) (hq : base ≤ q) : cB base (cNw s q t) := by
  intro a ha
  by_cases h : a = q
  · exact h ▸ hq
  · rw [cNw_kn h] at ha
    exact hB a ha
def cDf (g : Nat) : Value := match cKd g with
  | 0 => .int 0
  | 1 => .long 0
  | _ => .null
theorem c_new (hG : pm_cl kcl base X Rt G) {i n : Nat} {o : Nat × List Value} (u : Nat) (hc : X.code pc = some (.new i)) (ho : X.mk i = some o) (ho1 : o.1 = cKn u) (ho2 : o.2 = obL (cNf (cKn u)) (fun k => cDf (20 * cKn u + k))) (hu : Nat.ble 1 u = true) (hv : Nat.ble (u + 1) 100 = true) (hn : o.2.length = n) (h1 : 1 ≤ kc) (h2 : n ≤ ks) (h : ∀ q, base ≤ q → cM R s q = none → G (pc + 3) L (.ref q :: st) (cM R (cNw s q (u, 0))) (kc - 1) (ks - n)) : G pc L st (cM R s) kc ks := by
  subst hn
  refine pg_new hG hc ho h1 h2 (fun q hq hb => ?_)
  have hu := Nat.le_of_ble_eq_true hu
  have hv := Nat.le_of_ble_eq_true hv
  have e : pm_up (cM R s) q (.inr o) = cM R (cNw s q (u, 0)) := by
    refine cM_nw (show u ≠ 0 by omega) ?_
    unfold cEt
    rw [if_pos (show u < 100 by omega)]
    obtain ⟨o1, o2⟩ := o
    have ho1 : o1 = cKn u := ho1
    have ho2 : o2 = obL (cNf (cKn u)) (fun k => cDf (20 * cKn u + k)) := ho2
    have e2 : (fun k => cV (cNw s q (u, 0)) (20 * cKn u + k) q) = fun k => cDf (20 * cKn u + k) := by
      funext k
      unfold cV cDf
      rw [cNw_is, cNw_js, cNw_ps]
      rfl
    show some (Sum.inr (cKn u, obL (cNf (cKn u)) (fun k => cV (cNw s q (u, 0)) (20 * cKn u + k) q))) = _
    rw [e2, ho1, ho2]
  rw [e]
  exact h q hb hq
theorem c_nar (hG : pm_cl kcl base X Rt G) {t : ArrayType} {n : Nat} (u : Nat) (hc : X.code pc = some (.newarray t)) (ht : pm_nar t = true) (hu : cAT u = newarray.typeOf t) (hz : pm_zero t = .inl fun _ => 0) (u1 : Nat.ble 100 u = true) (u2 : Nat.ble (u + 1) 130 = true) (hn : n ≤ 4000000) (h1 : 1 ≤ kc) (h2 : n ≤ ks) (h : ∀ q, base ≤ q → cM R s q = none → G (pc + 2) L (.ref q :: st) (cM R (cNw s q (u, n))) (kc - 1) (ks - n)) : G pc L (.int (nI n) :: st) (cM R s) kc ks := by
  have u1 := Nat.le_of_ble_eq_true u1
  have u2 := Nat.le_of_ble_eq_true u2
  refine pg_nar hG hc ht hn h1 h2 (fun q hq hb => ?_)
  have e : pm_up (cM R s) q (.inl (newarray.typeOf t, n, pm_zero t)) = cM R (cNw s q (u, n)) := by
    refine cM_nw (show u ≠ 0 by omega) ?_
    unfold cEt
    rw [if_neg (show ¬ u < 100 by omega), if_pos (show u < 130 by omega), cNw_es, hu, hz]
  rw [e]
  exact h q hb hq
theorem c_naq (hG : pm_cl kcl base X Rt G) {i n : Nat} {C : String} (u : Nat) (hc : X.code pc = some (.anewarray i)) (ht : X.arr i = some C) (hu : cAT u = .object C) (u1 : Nat.ble 130 u = true) (u2 : Nat.ble (u + 1) 160 = true) (hn : n ≤ 4000000) (h1 : 1 ≤ kc) (h2 : n ≤ ks) (h : ∀ q, base ≤ q → cM R s q = none → G (pc + 3) L (.ref q :: st) (cM R (cNw s q (u, n))) (kc - 1) (ks - n)) : G pc L (.int (nI n) :: st) (cM R s) kc ks := by
  have u1 := Nat.le_of_ble_eq_true u1
  have u2 := Nat.le_of_ble_eq_true u2
  refine pg_naq hG hc ht hn h1 h2 (fun q hq hb => ?_)
  have e : pm_up (cM R s) q (.inl (.object C, n, .inr (.inr (.inr (.inr fun _ => none))))) = cM R (cNw s q (u, n)) := by
    refine cM_nw (show u ≠ 0 by omega) ?_
    unfold cEt
    rw [if_neg (show ¬ u < 100 by omega), if_neg (show ¬ u < 130 by omega), if_pos (show u < 160 by omega), cNw_qs, hu]
  rw [e]
  exact h q hb hq
end CRows
/-- class and model stand beside each other -/
theorem cM_moM {R : pmM} {base m : Nat} {q : Nat → Nat} {t : moS} {s : cS} (hq : moQ base m q) (h0 : (s.K m).1 = 0) (h1 : ∀ k ∈ moAr, (s.K (q k)).1 = 0) : cM (moM R m q t) s = moM (cM R s) m q t := by
  funext a
  by_cases ha : a = m
  · subst ha
    rw [cM_r h0, moM_m, moM_m]
  · by_cases hk : ∃ k ∈ moAr, q k = a
    · obtain ⟨k, hk, rfl⟩ := hk
      rw [cM_r (h1 k hk), moM_q hq hk, moM_q hq hk]
    · have hk' : ∀ k ∈ moAr, q k ≠ a := fun k hk' e => hk ⟨k, hk', e⟩
      rw [moM_o ha hk']
      unfold cM
      rw [moM_o ha hk']
