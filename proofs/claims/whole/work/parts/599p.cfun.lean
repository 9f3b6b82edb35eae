/-! The methods as weakest preconditions over the memory as one value. -/
noncomputable def gd {α : Type} (P : Prop) (x : α) : Option α := @ite _ P (Classical.propDecidable P) (some x) none
theorem gd_of {α : Type} {P : Prop} {x y : α} (h : gd P x = some y) : P ∧ x = y := by
  unfold gd at h
  split at h
  · exact ⟨by assumption, Option.some.inj h⟩
  · cases h
theorem gd_to {α : Type} {P : Prop} {x : α} (h : P) : gd P x = some x := by
  unfold gd
  rw [if_pos h]
/-- there is such a value, and the rest holds of it -/
def ob {α : Type} (o : Option α) (f : α → Prop) : Prop := ∃ x, o = some x ∧ f x
theorem ob_s {α : Type} {x : α} {f : α → Prop} (h : f x) : ob (some x) f := ⟨x, rfl, h⟩
theorem ob_i {α : Type} {o : Option α} {x : α} {f : α → Prop} (e : o = some x) (h : f x) : ob o f := ⟨x, e, h⟩
/-- an object of a kind -/
def okO (s : cS) (c a : Nat) : Prop := 1 ≤ (s.K a).1 ∧ (s.K a).1 < 100 ∧ cKn (s.K a).1 = c
def okA (s : cS) (ty : FieldType) (a : Nat) (i : Int32) : Prop := 100 ≤ (s.K a).1 ∧ (s.K a).1 < 130 ∧ cAT (s.K a).1 = ty ∧ vp_in i (s.K a).2
def okQ (s : cS) (a : Nat) (i : Int32) : Prop := 130 ≤ (s.K a).1 ∧ (s.K a).1 < 146 ∧ vp_in i (s.K a).2
noncomputable def gI (s : cS) (c k a : Nat) : Option Int32 := gd (okO s c a) (s.I (20 * c + k) a)
noncomputable def gJ (s : cS) (c k a : Nat) : Option Int64 := gd (okO s c a) (s.J (20 * c + k) a)
noncomputable def gP (s : cS) (c k a : Nat) : Option (Option Nat) := gd (okO s c a) (s.P (20 * c + k) a)
noncomputable def pI (s : cS) (c k a : Nat) (v : Int32) : Option cS := gd (okO s c a) (cSI s (20 * c + k) a v)
noncomputable def pZ (s : cS) (c k a : Nat) (v : Int32) : Option cS := gd (okO s c a ∧ (v = 0 ∨ v = 1)) (cSI s (20 * c + k) a v)
noncomputable def pJ (s : cS) (c k a : Nat) (v : Int64) : Option cS := gd (okO s c a) (cSJ s (20 * c + k) a v)
noncomputable def pP (s : cS) (c k a : Nat) (v : Option Nat) : Option cS := gd (okO s c a) (cSP s (20 * c + k) a v)
noncomputable def rE (s : cS) (ty : FieldType) (a : Nat) (i : Int32) : Option Int32 := gd (okA s ty a i) (s.E a i.toNatClampNeg)
noncomputable def rQ (s : cS) (a : Nat) (i : Int32) : Option (Option Nat) := gd (okQ s a i) (s.Q a i.toNatClampNeg)
noncomputable def wEi (s : cS) (a : Nat) (i v : Int32) : Option cS := gd (okA s .int a i) (cSE s a i.toNatClampNeg v)
noncomputable def wEb (s : cS) (a : Nat) (i v : Int32) : Option cS := gd (okA s .byte a i) (cSE s a i.toNatClampNeg v.toInt8.toInt32)
noncomputable def wEc (s : cS) (a : Nat) (i v : Int32) : Option cS := gd (okA s .char a i) (cSE s a i.toNatClampNeg (vp_nar .char v))
noncomputable def wEz (s : cS) (a : Nat) (i v : Int32) : Option cS := gd (okA s .boolean a i) (cSE s a i.toNatClampNeg (vp_nar .boolean v))
/-- the kind of what a row of references holds -/
def cAk (t : Nat) : Nat := [3, 9, 6, 2, 2, 8, 5, 5, 5, 4, 99, 99, 99, 6, 8, 8].getD (t - 130) 99
noncomputable def wQ (s : cS) (a : Nat) (i : Int32) (v : Option Nat) : Option cS := gd (okQ s a i ∧ cAk (s.K a).1 < 99 ∧ ∀ b, v = some b → okO s (cAk (s.K a).1) b) (cSQ s a i.toNatClampNeg v)
noncomputable def aL (s : cS) (a : Nat) : Option Int32 := gd (100 ≤ (s.K a).1 ∧ (s.K a).1 < 160) (nI (s.K a).2)
/-- what may be new -/
def cFr (sa : Nat → Nat) (s : cS) (q : Nat) : Prop := (s.K q).1 = 0 ∧ ∀ k, k < kTx.length → sa k ≠ q
/-- a new object of kind c: its part is chosen -/
def nwO (sa : Nat → Nat) (s : cS) (kc ks c n : Nat) (f : Nat → cS → Nat → Nat → Prop) : Prop := 1 ≤ kc ∧ n ≤ ks ∧ ∃ u, (1 ≤ u ∧ u < 100 ∧ cKn u = c) ∧ ∀ q, cFr sa s q → f q (cNw s q (u, 0)) (kc - 1) (ks - n)
/-- a new row of numbers -/
def nwA (sa : Nat → Nat) (s : cS) (kc ks : Nat) (ty : FieldType) (n : Int32) (f : Nat → cS → Nat → Nat → Prop) : Prop := ∃ k, n = nI k ∧ k ≤ 4000000 ∧ 1 ≤ kc ∧ k ≤ ks ∧ ∃ u, (100 ≤ u ∧ u < 130 ∧ cAT u = ty) ∧ ∀ q, cFr sa s q → f q (cNw s q (u, k)) (kc - 1) (ks - k)
/-- a new row of references -/
def nwQ (sa : Nat → Nat) (s : cS) (kc ks : Nat) (C : String) (n : Int32) (f : Nat → cS → Nat → Nat → Prop) : Prop := ∃ k, n = nI k ∧ k ≤ 4000000 ∧ 1 ≤ kc ∧ k ≤ ks ∧ ∃ u, (130 ≤ u ∧ u < 146 ∧ cAT u = .object C) ∧ ∀ q, cFr sa s q → f q (cNw s q (u, k)) (kc - 1) (ks - k)
/-- a new row of rows of numbers -/
def cNm (s : cS) (q u v n k : Nat) : cS := (fun b => if b = q then (u, n) else if q < b ∧ b ≤ q + n then (v, k) else s.K b, fun g b => if q ≤ b ∧ b ≤ q + n then 0 else s.I g b, fun g b => if q ≤ b ∧ b ≤ q + n then 0 else s.J g b, fun g b => if q ≤ b ∧ b ≤ q + n then none else s.P g b, fun b => if q ≤ b ∧ b ≤ q + n then (fun _ => 0) else s.E b, fun b => if b = q then (fun j => if j < n then some (q + 1 + j) else none) else s.Q b)
def nwM (sa : Nat → Nat) (s : cS) (kc ks : Nat) (ty : FieldType) (n k : Nat) (f : Nat → cS → Nat → Nat → Prop) : Prop := n ≤ 4000 ∧ k ≤ 4000 ∧ 1 + n ≤ kc ∧ n + n * k ≤ ks ∧ ∃ u v, (130 ≤ u ∧ u < 146 ∧ cAT u = .array ty) ∧ (100 ≤ v ∧ v < 130 ∧ cAT v = ty) ∧ ∀ q, (∀ j, j ≤ n → cFr sa s (q + j)) → f q (cNm s q u v n k) (kc - (1 + n)) (ks - (n + n * k))
/-- numbers copied from a row to another -/
noncomputable def cpE (s : cS) (a : Nat) (sp : Int32) (b : Nat) (dp n : Int32) : Option cS := gd ((100 ≤ (s.K a).1 ∧ (s.K a).1 < 130) ∧ (100 ≤ (s.K b).1 ∧ (s.K b).1 < 130) ∧ cAT (s.K b).1 = cAT (s.K a).1 ∧ ¬ sp < 0 ∧ ¬ dp < 0 ∧ ¬ n < 0 ∧ sp.toNatClampNeg + n.toNatClampNeg ≤ (s.K a).2 ∧ dp.toNatClampNeg + n.toNatClampNeg ≤ (s.K b).2 ∧ ∀ i, i < n.toNatClampNeg → fits (cAT (s.K a).1) (.int (s.E a (sp.toNatClampNeg + i))) = true) (s.1, s.2.1, s.2.2.1, s.2.2.2.1, fun x => if x = b then va_cpy (s.E a) (s.E b) sp.toNatClampNeg dp.toNatClampNeg n.toNatClampNeg else s.E x, s.2.2.2.2.2)
/-- the rows that are there before all -/
def kSin : List Int32 := [-680876936, -389564586, 606105819, -1044525330, -176418897, 1200080426, -1473231341, -45705983, 1770035416, -1958414417, -42063, -1990404162, 1804603682, -40341101, -1502002290, 1236535329, -165796510, -1069501632, 643717713, -373897302, -701558691, 38016083, -660478335, -405537848, 568446438, -1019803690, -187363961, 1163531501, -1444681467, -51403784, 1735328473, -1926607734, -378558, -2022574463, 1839030562, -35309556, -1530992060, 1272893353, -155497632, -1094730640, 681279174, -358537222, -722521979, 76029189, -640364487, -421815835, 530742520, -995338651, -198630844, 1126891415, -1416354905, -57434055, 1700485571, -1894986606, -1051523, -2054922799, 1873313359, -30611744, -1560198380, 1309151649, -145523070, -1120210379, 718787259, -343485551]
def kTur : List Int32 := [7, 12, 17, 22, 5, 9, 14, 20, 4, 11, 16, 23, 6, 10, 15, 21]
noncomputable def rS (l : List Int32) (i : Int32) : Option Int32 := gd (vp_in i l.length) (l.getD i.toNatClampNeg 0)
/-- a text: one that was there before all, or a name -/
def isTx (sa : Nat → Nat) (s : cS) (a : Nat) (l : List Int32) : Prop := ((s.K a).1 = 31 ∧ s.I 261 a = 0 ∧ ∃ v, s.P 260 a = some v ∧ s.K v = (118, l.length) ∧ l.length ≤ 1000000 ∧ ∀ i, i < l.length → s.E v i = l.getD i 0) ∨ ((s.K a).1 = 0 ∧ ∃ k, k < kTx.length ∧ sa k = a ∧ l = kTx.getD k [])
/-- ours is apart from the rest and may be written; the rest holds texts and rows that were there before all -/
def cW (sa : Nat → Nat) (R : pmM) (base : Nat) (s : cS) : Prop := (∀ a, (s.K a).1 ≠ 0 → base ≤ a ∧ R a = none ∧ (s.K a).1 < 160) ∧ (∀ k, k < kTx.length → ∃ v, vSt R (sa k) v (kTx.getD k [])) ∧ R (sa 1000) = some (.inl (.int, kSin.length, .inl fun i => kSin.getD i 0)) ∧ R (sa 1001) = some (.inl (.int, kTur.length, .inl fun i => kTur.getD i 0))
theorem cW.b {sa : Nat → Nat} {R : pmM} {base : Nat} {s : cS} (h : cW sa R base s) : cB base s := fun a ha => (h.1 a ha).1
theorem cW.k {sa : Nat → Nat} {R : pmM} {base : Nat} {s s' : cS} (h : cW sa R base s) (e : s'.K = s.K) : cW sa R base s' := ⟨fun a ha => by rw [e] at ha ⊢; exact h.1 a ha, h.2⟩
theorem cW.n {sa : Nat → Nat} {R : pmM} {base q : Nat} {s : cS} {t : Nat × Nat} (h : cW sa R base s) (hq : base ≤ q) (hr : R q = none) (ht : t.1 < 160) : cW sa R base (cNw s q t) := ⟨fun a ha => by
  by_cases e : a = q
  · rw [e, cNw_ks]; exact ⟨hq, hr, ht⟩
  · rw [cNw_kn e] at ha ⊢; exact h.1 a ha, h.2⟩
theorem cW.f {sa : Nat → Nat} {R : pmM} {base q : Nat} {s : cS} (h : cW sa R base s) (hq : cM R s q = none) : cFr sa s q ∧ R q = none := by
  suffices h0 : (s.K q).1 = 0 ∧ R q = none by
    refine ⟨⟨h0.1, fun k hk e => ?_⟩, h0.2⟩
    obtain ⟨v, x, z, f, g1, -⟩ := h.2.1 k hk
    rw [e, h0.2] at g1
    cases g1
  by_cases e : (s.K q).1 = 0
  · rw [cM_r e] at hq
    exact ⟨e, hq⟩
  · have h3 := (h.1 q e).2.2
    unfold cM at hq
    rw [if_neg e] at hq
    unfold cEt at hq
    by_cases h1 : (s.K q).1 < 100
    · rw [if_pos h1] at hq; cases hq
    · rw [if_neg h1] at hq
      by_cases h2 : (s.K q).1 < 130
      · rw [if_pos h2] at hq; cases hq
      · rw [if_neg h2, if_pos h3] at hq; cases hq
/-- what stands in the rest isn't ours -/
theorem cW.r {sa : Nat → Nat} {R : pmM} {base a : Nat} {s : cS} {e : pmE} (h : cW sa R base s) (ha : R a = some e) : (s.K a).1 = 0 := Classical.byContradiction fun z => by rw [(h.1 a z).2.1] at ha; cases ha
theorem cat_rf (x : Option Nat) : (va_rf x).category = 1 := by cases x <;> rfl
theorem cats_le {r : List Value} (h : r.length ≤ 4) : pm_cats r ≤ 8 := by
  have key : ∀ r : List Value, pm_cats r ≤ 2 * r.length := by
    intro r
    induction r with
    | nil => exact Nat.le_refl 0
    | cons v r ih =>
      have hv : v.category ≤ 2 := by cases v <;> first | exact Nat.le.refl | exact Nat.le.step Nat.le.refl
      have e : pm_cats (v :: r) = v.category + pm_cats r := rfl
      rw [e, List.length_cons]
      omega
  have := key r
  omega
theorem cats0 : pm_cats [] ≤ 0 := Nat.le_refl 0
theorem catc1 {v : Value} {r : List Value} {n : Nat} (hv : v.category = 1) (h : pm_cats r ≤ n) : pm_cats (v :: r) ≤ n + 1 := by
  have e : pm_cats (v :: r) = v.category + pm_cats r := rfl
  rw [e, hv]
  omega
/-- the walk at a place, and what is left to hold -/
def KK (sa : Nat → Nat) (R : pmM) (base : Nat) (G : pmK) (pc : Nat) (L : pmL) (st : List Value) (s : cS) (kc ks : Nat) (e : Prop) : Prop := cW sa R base s → e → G pc L st (cM R s) kc ks
section KkRows
variable {sa : Nat → Nat} {base : Nat} {X : pmX} {Rt : pmR} {G : pmK} {pc : Nat} {L : pmL} {st : List Value} {R : pmM} {s : cS} {kc ks : Nat} {e e2 : Prop}
theorem kks (hG : pm_cl kcl base X Rt G) {ins : Instr} {pc' : Nat} {L' : pmL} {st' : List Value} (hc : X.code pc = some ins) (he : pm_ins kcl base X Rt G ins pc L st (cM R s) kc ks = G pc' L' st' (cM R s) kc ks) (n : KK sa R base G pc' L' st' s kc ks e) : KK sa R base G pc L st s kc ks e := fun hw h => pgs hG hc he (n hw h)
theorem kkc (hG : pm_cl kcl base X Rt G) {ins : Instr} {P : Prop} {pc' : Nat} {L' : pmL} {st' : List Value} (hc : X.code pc = some ins) (he : pm_ins kcl base X Rt G ins pc L st (cM R s) kc ks = (P ∧ G pc' L' st' (cM R s) kc ks)) (hp : P) (n : KK sa R base G pc' L' st' s kc ks e) : KK sa R base G pc L st s kc ks e := fun hw h => pgc hG hc he hp (n hw h)
theorem kkc2 (hG : pm_cl kcl base X Rt G) {ins : Instr} {P P2 : Prop} {pc' : Nat} {L' : pmL} {st' : List Value} (hc : X.code pc = some ins) (he : pm_ins kcl base X Rt G ins pc L st (cM R s) kc ks = (P ∧ P2 ∧ G pc' L' st' (cM R s) kc ks)) (hp : P) (hp2 : P2) (n : KK sa R base G pc' L' st' s kc ks e) : KK sa R base G pc L st s kc ks e := fun hw h => pgc2 hG hc he hp hp2 (n hw h)
theorem kk_at {pc' : Nat} (e0 : pc' = pc) (n : KK sa R base G pc' L st s kc ks e) : KK sa R base G pc L st s kc ks e := e0 ▸ n
theorem kk_wl (hG : pm_cl kcl base X Rt G) (is : List Nat) {L' : pmL} (he : lv_pick L is = L') (n : KK sa R base G pc L' st s kc ks e) : KK sa R base G pc L st s kc ks e := fun hw h => pg_wl hG is he (n hw h)
theorem kk_go (hG : pm_cl kcl base X Rt G) {off : Int} {t : Nat} (hc : X.code pc = some (.goto off)) (hj : ((pc : Int) + off = (t : Int))) (n : KK sa R base G t L st s kc ks e) : KK sa R base G pc L st s kc ks e := fun hw h => pg_go hG hc hj (n hw h)
theorem kk_ic (hG : pm_cl kcl base X Rt G) {n : Int} {v : Int32} (hc : X.code pc = some (.iconst n)) (ev : Int32.ofInt n = v) (nx : KK sa R base G (pc + 1) L (.int v :: st) s kc ks e) : KK sa R base G pc L st s kc ks e := by subst ev; exact fun hw h => pgs hG hc rfl (nx hw h)
theorem kk_bi (hG : pm_cl kcl base X Rt G) {n : Int} {v : Int32} (hc : X.code pc = some (.bipush n)) (ev : (Int8.ofInt n).toInt32 = v) (nx : KK sa R base G (pc + 2) L (.int v :: st) s kc ks e) : KK sa R base G pc L st s kc ks e := by subst ev; exact fun hw h => pgs hG hc rfl (nx hw h)
theorem kk_si (hG : pm_cl kcl base X Rt G) {n : Int} {v : Int32} (hc : X.code pc = some (.sipush n)) (ev : (Int16.ofInt n).toInt32 = v) (nx : KK sa R base G (pc + 3) L (.int v :: st) s kc ks e) : KK sa R base G pc L st s kc ks e := by subst ev; exact fun hw h => pgs hG hc rfl (nx hw h)
theorem kk_lc (hG : pm_cl kcl base X Rt G) {v : Int64} {c : Fin 2} (hc : X.code pc = some (.lconst c)) (ev : Int64.ofNat c = v) (nx : KK sa R base G (pc + 1) L (.long v :: st) s kc ks e) : KK sa R base G pc L st s kc ks e := by subst ev; exact fun hw h => pgs hG hc rfl (nx hw h)
theorem kk_ld (hG : pm_cl kcl base X Rt G) {i : Nat} {v : Int32} (hc : X.code pc = some (.ldc i)) (hv : X.ci i = some v) (nx : KK sa R base G (pc + 2) L (.int v :: st) s kc ks e) : KK sa R base G pc L st s kc ks e := fun hw h => pg_ldi hG hc hv (nx hw h)
theorem kk_lw (hG : pm_cl kcl base X Rt G) {i : Nat} {v : Int32} (hc : X.code pc = some (.ldc_w i)) (hv : X.ci i = some v) (nx : KK sa R base G (pc + 3) L (.int v :: st) s kc ks e) : KK sa R base G pc L st s kc ks e := fun hw h => pg_lwi hG hc hv (nx hw h)
theorem kk_lds (hG : pm_cl kcl base X Rt G) {i a : Nat} (hc : X.code pc = some (.ldc i)) (hv : X.str i = some a) (nx : KK sa R base G (pc + 2) L (va_rf (some a) :: st) s kc ks e) : KK sa R base G pc L st s kc ks e := fun hw h => pg_lds hG hc hv (nx hw h)
theorem kk_lws (hG : pm_cl kcl base X Rt G) {i a : Nat} (hc : X.code pc = some (.ldc_w i)) (hv : X.str i = some a) (nx : KK sa R base G (pc + 3) L (va_rf (some a) :: st) s kc ks e) : KK sa R base G pc L st s kc ks e := fun hw h => pg_lws hG hc hv (nx hw h)
theorem kk_l2 (hG : pm_cl kcl base X Rt G) {i : Nat} {v : Int64} (hc : X.code pc = some (.ldc2_w i)) (hv : X.cl i = some v) (nx : KK sa R base G (pc + 3) L (.long v :: st) s kc ks e) : KK sa R base G pc L st s kc ks e := fun hw h => pg hG hc (by
  show pm_opt (X.cl i) _
  rw [hv]
  exact nx hw h)
theorem kk_inc (hG : pm_cl kcl base X Rt G) {i : Nat} {n : Int} {v x : Int32} (hc : X.code pc = some (.iinc i n)) (hi : i < X.nL) (hl : pm_get L i = some (.int x)) (ev : Int32.ofInt n = v) {L' : pmL} (hL : pm_st1 L i (.int (x + v)) = L') (nx : KK sa R base G (pc + 3) L' st s kc ks e) : KK sa R base G pc L st s kc ks e := fun hw h => pg hG hc ⟨hi, by
  subst ev hL
  show pm_old L i _
  unfold pm_old
  rw [hl]
  exact nx hw h⟩
/-- references in locals -/
theorem kk_aln (hG : pm_cl kcl base X Rt G) {i : Fin 4} {x : Option Nat} (hc : X.code pc = some (.aload_n i)) (hl : pm_get L i = some (va_rf x)) (nx : KK sa R base G (pc + 1) L (va_rf x :: st) s kc ks e) : KK sa R base G pc L st s kc ks e := fun hw h => pg hG hc (by
  show pm_old L i _
  unfold pm_old
  rw [hl]
  cases x with
  | none => exact nx hw h
  | some a => exact nx hw h)
theorem kk_al (hG : pm_cl kcl base X Rt G) {i : Nat} {x : Option Nat} (hc : X.code pc = some (.aload i)) (hl : pm_get L i = some (va_rf x)) (nx : KK sa R base G (pc + 2) L (va_rf x :: st) s kc ks e) : KK sa R base G pc L st s kc ks e := fun hw h => pg hG hc (by
  show pm_old L i _
  unfold pm_old
  rw [hl]
  cases x with
  | none => exact nx hw h
  | some a => exact nx hw h)
theorem kk_asn (hG : pm_cl kcl base X Rt G) {i : Fin 4} {x : Option Nat} {L' : pmL} (hc : X.code pc = some (.astore_n i)) (hi : (i : Nat) < X.nL) (hL : pm_st1 L i (va_rf x) = L') (nx : KK sa R base G (pc + 1) L' st s kc ks e) : KK sa R base G pc L (va_rf x :: st) s kc ks e := fun hw h => pg hG hc ⟨hi, by
  subst hL
  cases x with
  | none => exact nx hw h
  | some a => exact nx hw h⟩
theorem kk_as (hG : pm_cl kcl base X Rt G) {i : Nat} {x : Option Nat} {L' : pmL} (hc : X.code pc = some (.astore i)) (hi : i < X.nL) (hL : pm_st1 L i (va_rf x) = L') (nx : KK sa R base G (pc + 2) L' st s kc ks e) : KK sa R base G pc L (va_rf x :: st) s kc ks e := fun hw h => pg hG hc ⟨hi, by
  subst hL
  cases x with
  | none => exact nx hw h
  | some a => exact nx hw h⟩
theorem kk_st (hG : pm_cl kcl base X Rt G) {ins : Instr} {P : Prop} {pc' : Nat} {Lx L' : pmL} {st' : List Value} (hc : X.code pc = some ins) (he : pm_ins kcl base X Rt G ins pc L st (cM R s) kc ks = (P ∧ G pc' Lx st' (cM R s) kc ks)) (hp : P) (hL : Lx = L') (n : KK sa R base G pc' L' st' s kc ks e) : KK sa R base G pc L st s kc ks e := fun hw h => pgc hG hc he hp (by rw [hL]; exact n hw h)
theorem kk_dup (hG : pm_cl kcl base X Rt G) {x : Option Nat} (hc : X.code pc = some .dup) (nx : KK sa R base G (pc + 1) L (va_rf x :: va_rf x :: st) s kc ks e) : KK sa R base G pc L (va_rf x :: st) s kc ks e := fun hw h => pg hG hc ⟨cat_rf x, nx hw h⟩
theorem kk_dup2 (hG : pm_cl kcl base X Rt G) {x : Option Nat} {i : Int32} (hc : X.code pc = some .dup2) (nx : KK sa R base G (pc + 1) L (.int i :: va_rf x :: .int i :: va_rf x :: st) s kc ks e) : KK sa R base G pc L (.int i :: va_rf x :: st) s kc ks e := fun hw h => pg hG hc ⟨rfl, cat_rf x, nx hw h⟩
theorem kk_pop (hG : pm_cl kcl base X Rt G) {x : Option Nat} (hc : X.code pc = some .pop) (nx : KK sa R base G (pc + 1) L st s kc ks e) : KK sa R base G pc L (va_rf x :: st) s kc ks e := fun hw h => pg hG hc ⟨cat_rf x, nx hw h⟩
theorem kk_ob {α : Type} {o : Option α} {f : α → Prop} (nx : ∀ x, o = some x → KK sa R base G pc L st s kc ks (f x)) : KK sa R base G pc L st s kc ks (ob o f) := fun hw h => by
  obtain ⟨x, hx, h⟩ := h
  exact nx x hx hw h
theorem okO.o {c a : Nat} (h : okO s c a) : isO s (s.K a).1 a ∧ Nat.ble 1 (s.K a).1 = true ∧ Nat.ble ((s.K a).1 + 1) 100 = true ∧ cKn (s.K a).1 = c := ⟨rfl, Nat.ble_eq_true_of_le h.1, Nat.ble_eq_true_of_le h.2.1, h.2.2⟩
theorem kk_gi (hG : pm_cl kcl base X Rt G) {i c k a : Nat} {ty : FieldType} {w : Bool} {f : Int32 → Prop} (hc : X.code pc = some (.getfield i)) (hf : X.fld i = some (c, k, ty, w)) (hk : Nat.ble (k + 1) (cNf c) = true) (hd : cKd (20 * c + k) = 0) (nx : ∀ v, KK sa R base G (pc + 3) L (.int v :: st) s kc ks (f v)) : KK sa R base G pc L (va_rf (some a) :: st) s kc ks (ob (gI s c k a) f) := fun hw h => by
  obtain ⟨v, hv, h⟩ := h
  obtain ⟨ho, rfl⟩ := gd_of hv
  obtain ⟨o1, o2, o3, o4⟩ := ho.o
  exact c_gi hG hc hf o1 o2 o3 o4 hk hd (nx _ hw h)
theorem kk_gj (hG : pm_cl kcl base X Rt G) {i c k a : Nat} {ty : FieldType} {w : Bool} {f : Int64 → Prop} (hc : X.code pc = some (.getfield i)) (hf : X.fld i = some (c, k, ty, w)) (hk : Nat.ble (k + 1) (cNf c) = true) (hd : cKd (20 * c + k) = 1) (nx : ∀ v, KK sa R base G (pc + 3) L (.long v :: st) s kc ks (f v)) : KK sa R base G pc L (va_rf (some a) :: st) s kc ks (ob (gJ s c k a) f) := fun hw h => by
  obtain ⟨v, hv, h⟩ := h
  obtain ⟨ho, rfl⟩ := gd_of hv
  obtain ⟨o1, o2, o3, o4⟩ := ho.o
  exact c_gj hG hc hf o1 o2 o3 o4 hk hd (nx _ hw h)
theorem kk_gp (hG : pm_cl kcl base X Rt G) {i c k a : Nat} {ty : FieldType} {w : Bool} {f : Option Nat → Prop} (hc : X.code pc = some (.getfield i)) (hf : X.fld i = some (c, k, ty, w)) (hk : Nat.ble (k + 1) (cNf c) = true) (hd : cKd (20 * c + k) = 2) (nx : ∀ v, KK sa R base G (pc + 3) L (va_rf v :: st) s kc ks (f v)) : KK sa R base G pc L (va_rf (some a) :: st) s kc ks (ob (gP s c k a) f) := fun hw h => by
  obtain ⟨v, hv, h⟩ := h
  obtain ⟨ho, rfl⟩ := gd_of hv
  obtain ⟨o1, o2, o3, o4⟩ := ho.o
  exact c_gp hG hc hf o1 o2 o3 o4 hk hd (nx _ hw h)
theorem kk_pi (hG : pm_cl kcl base X Rt G) {i c k a : Nat} {v : Int32} {f : cS → Prop} (hc : X.code pc = some (.putfield i)) (hf : X.fld i = some (c, k, .int, true)) (hk : Nat.ble (k + 1) (cNf c) = true) (hd : cKd (20 * c + k) = 0) (nx : ∀ s', KK sa R base G (pc + 3) L st s' kc ks (f s')) : KK sa R base G pc L (.int v :: va_rf (some a) :: st) s kc ks (ob (pI s c k a v) f) := fun hw h => by
  obtain ⟨s', hv, h⟩ := h
  obtain ⟨ho, rfl⟩ := gd_of hv
  obtain ⟨o1, o2, o3, o4⟩ := ho.o
  exact c_pi hG hc hf o1 hw.b o2 o3 o4 hk hd rfl rfl (nx _ (hw.k rfl) h)
theorem kk_pz (hG : pm_cl kcl base X Rt G) {i c k a : Nat} {v : Int32} {f : cS → Prop} (hc : X.code pc = some (.putfield i)) (hf : X.fld i = some (c, k, .boolean, true)) (hk : Nat.ble (k + 1) (cNf c) = true) (hd : cKd (20 * c + k) = 0) (nx : ∀ s', KK sa R base G (pc + 3) L st s' kc ks (f s')) : KK sa R base G pc L (.int v :: va_rf (some a) :: st) s kc ks (ob (pZ s c k a v) f) := fun hw h => by
  obtain ⟨s', hv, h⟩ := h
  obtain ⟨⟨ho, hz⟩, rfl⟩ := gd_of hv
  obtain ⟨o1, o2, o3, o4⟩ := ho.o
  cases hz with
  | inl e => subst e; exact c_pi hG hc hf o1 hw.b o2 o3 o4 hk hd rfl rfl (nx _ (hw.k rfl) h)
  | inr e => subst e; exact c_pi hG hc hf o1 hw.b o2 o3 o4 hk hd rfl rfl (nx _ (hw.k rfl) h)
theorem kk_pb (hG : pm_cl kcl base X Rt G) {i c k a : Nat} {v : Int32} {f : cS → Prop} (hc : X.code pc = some (.putfield i)) (hf : X.fld i = some (c, k, .byte, true)) (hk : Nat.ble (k + 1) (cNf c) = true) (hd : cKd (20 * c + k) = 0) (nx : ∀ s', KK sa R base G (pc + 3) L st s' kc ks (f s')) : KK sa R base G pc L (.int v :: va_rf (some a) :: st) s kc ks (ob (pZ s c k a v) f) := fun hw h => by
  obtain ⟨s', hv, h⟩ := h
  obtain ⟨⟨ho, hz⟩, rfl⟩ := gd_of hv
  obtain ⟨o1, o2, o3, o4⟩ := ho.o
  cases hz with
  | inl e => subst e; exact c_pi hG hc hf o1 hw.b o2 o3 o4 hk hd rfl rfl (nx _ (hw.k rfl) h)
  | inr e => subst e; exact c_pi hG hc hf o1 hw.b o2 o3 o4 hk hd rfl rfl (nx _ (hw.k rfl) h)
theorem kk_pj (hG : pm_cl kcl base X Rt G) {i c k a : Nat} {v : Int64} {f : cS → Prop} (hc : X.code pc = some (.putfield i)) (hf : X.fld i = some (c, k, .long, true)) (hk : Nat.ble (k + 1) (cNf c) = true) (hd : cKd (20 * c + k) = 1) (nx : ∀ s', KK sa R base G (pc + 3) L st s' kc ks (f s')) : KK sa R base G pc L (.long v :: va_rf (some a) :: st) s kc ks (ob (pJ s c k a v) f) := fun hw h => by
  obtain ⟨s', hv, h⟩ := h
  obtain ⟨ho, rfl⟩ := gd_of hv
  obtain ⟨o1, o2, o3, o4⟩ := ho.o
  exact c_pj hG hc hf o1 hw.b o2 o3 o4 hk hd rfl rfl (nx _ (hw.k rfl) h)
theorem kk_pp (hG : pm_cl kcl base X Rt G) {i c k a : Nat} {ty : FieldType} {v : Option Nat} {f : cS → Prop} (hc : X.code pc = some (.putfield i)) (hf : X.fld i = some (c, k, ty, true)) (hk : Nat.ble (k + 1) (cNf c) = true) (hd : cKd (20 * c + k) = 2) (ht : ty.isReference = true) (nx : ∀ s', KK sa R base G (pc + 3) L st s' kc ks (f s')) : KK sa R base G pc L (va_rf v :: va_rf (some a) :: st) s kc ks (ob (pP s c k a v) f) := fun hw h => by
  obtain ⟨s', hv, h⟩ := h
  obtain ⟨ho, rfl⟩ := gd_of hv
  obtain ⟨o1, o2, o3, o4⟩ := ho.o
  exact c_pp hG hc hf o1 hw.b o2 o3 o4 hk hd ht (nx _ (hw.k rfl) h)
/-- rows of numbers -/
theorem kk_ia (hG : pm_cl kcl base X Rt G) {a : Nat} {i : Int32} {f : Int32 → Prop} (hc : X.code pc = some .iaload) (nx : ∀ v, KK sa R base G (pc + 1) L (.int v :: st) s kc ks (f v)) : KK sa R base G pc L (.int i :: va_rf (some a) :: st) s kc ks (ob (rE s .int a i) f) := fun hw h => by
  obtain ⟨v, hv, h⟩ := h
  obtain ⟨⟨h1, h2, h3, h4⟩, rfl⟩ := gd_of hv
  exact c_ia hG hc (t := (s.K a).1) (n := (s.K a).2) rfl (Nat.ble_eq_true_of_le h1) (Nat.ble_eq_true_of_le h2) h3 h4 (nx _ hw h)
theorem kk_ba (hG : pm_cl kcl base X Rt G) {a : Nat} {i : Int32} {f : Int32 → Prop} (hc : X.code pc = some .baload) (nx : ∀ v, KK sa R base G (pc + 1) L (.int v :: st) s kc ks (f v)) : KK sa R base G pc L (.int i :: va_rf (some a) :: st) s kc ks (ob (rE s .byte a i) f) := fun hw h => by
  obtain ⟨v, hv, h⟩ := h
  obtain ⟨⟨h1, h2, h3, h4⟩, rfl⟩ := gd_of hv
  exact c_ba hG hc (t := (s.K a).1) (n := (s.K a).2) rfl (Nat.ble_eq_true_of_le h1) (Nat.ble_eq_true_of_le h2) h3 h4 (nx _ hw h)
theorem kk_za (hG : pm_cl kcl base X Rt G) {a : Nat} {i : Int32} {f : Int32 → Prop} (hc : X.code pc = some .baload) (nx : ∀ v, KK sa R base G (pc + 1) L (.int v :: st) s kc ks (f v)) : KK sa R base G pc L (.int i :: va_rf (some a) :: st) s kc ks (ob (rE s .boolean a i) f) := fun hw h => by
  obtain ⟨v, hv, h⟩ := h
  obtain ⟨⟨h1, h2, h3, h4⟩, rfl⟩ := gd_of hv
  exact c_za hG hc (t := (s.K a).1) (n := (s.K a).2) rfl (Nat.ble_eq_true_of_le h1) (Nat.ble_eq_true_of_le h2) h3 h4 (nx _ hw h)
theorem cAT_r {t : Nat} (h1 : 130 ≤ t) (h2 : t < 146) : (cAT t).isReference = true := by
  obtain ⟨k, rfl⟩ : ∃ k, t = 130 + k := ⟨t - 130, by omega⟩
  have key : ∀ k, k < 16 → (cAT (130 + k)).isReference = true := by decide
  exact key k (by omega)
theorem kk_aa (hG : pm_cl kcl base X Rt G) {a : Nat} {i : Int32} {f : Option Nat → Prop} (hc : X.code pc = some .aaload) (nx : ∀ v, KK sa R base G (pc + 1) L (va_rf v :: st) s kc ks (f v)) : KK sa R base G pc L (.int i :: va_rf (some a) :: st) s kc ks (ob (rQ s a i) f) := fun hw h => by
  obtain ⟨v, hv, h⟩ := h
  obtain ⟨⟨h1, h2, h4⟩, rfl⟩ := gd_of hv
  exact c_aa hG hc (t := (s.K a).1) (n := (s.K a).2) rfl (Nat.ble_eq_true_of_le h1) (Nat.ble_eq_true_of_le (by omega)) (cAT_r h1 h2) h4 (nx _ hw h)
theorem kk_is (hG : pm_cl kcl base X Rt G) {a : Nat} {i x : Int32} {f : cS → Prop} (hc : X.code pc = some .iastore) (nx : ∀ s', KK sa R base G (pc + 1) L st s' kc ks (f s')) : KK sa R base G pc L (.int x :: .int i :: va_rf (some a) :: st) s kc ks (ob (wEi s a i x) f) := fun hw h => by
  obtain ⟨v, hv, h⟩ := h
  obtain ⟨⟨h1, h2, h3, h4⟩, rfl⟩ := gd_of hv
  exact c_is hG hc (t := (s.K a).1) (n := (s.K a).2) rfl hw.b (Nat.ble_eq_true_of_le h1) (Nat.ble_eq_true_of_le h2) h3 h4 (nx _ (hw.k rfl) h)
theorem kk_bs (hG : pm_cl kcl base X Rt G) {a : Nat} {i x : Int32} {f : cS → Prop} (hc : X.code pc = some .bastore) (nx : ∀ s', KK sa R base G (pc + 1) L st s' kc ks (f s')) : KK sa R base G pc L (.int x :: .int i :: va_rf (some a) :: st) s kc ks (ob (wEb s a i x) f) := fun hw h => by
  obtain ⟨v, hv, h⟩ := h
  obtain ⟨⟨h1, h2, h3, h4⟩, rfl⟩ := gd_of hv
  exact c_bs hG hc (t := (s.K a).1) (n := (s.K a).2) rfl hw.b (Nat.ble_eq_true_of_le h1) (Nat.ble_eq_true_of_le h2) h3 h4 (nx _ (hw.k rfl) h)
theorem kk_zs (hG : pm_cl kcl base X Rt G) {a : Nat} {i x : Int32} {f : cS → Prop} (hc : X.code pc = some .bastore) (nx : ∀ s', KK sa R base G (pc + 1) L st s' kc ks (f s')) : KK sa R base G pc L (.int x :: .int i :: va_rf (some a) :: st) s kc ks (ob (wEz s a i x) f) := fun hw h => by
  obtain ⟨v, hv, h⟩ := h
  obtain ⟨⟨h1, h2, h3, h4⟩, rfl⟩ := gd_of hv
  exact c_zs hG hc (t := (s.K a).1) (n := (s.K a).2) rfl hw.b (Nat.ble_eq_true_of_le h1) (Nat.ble_eq_true_of_le h2) h3 h4 (nx _ (hw.k rfl) h)
theorem kk_ca (hG : pm_cl kcl base X Rt G) {a : Nat} {i : Int32} {f : Int32 → Prop} (hc : X.code pc = some .caload) (nx : ∀ v, KK sa R base G (pc + 1) L (.int v :: st) s kc ks (f v)) : KK sa R base G pc L (.int i :: va_rf (some a) :: st) s kc ks (ob (rE s .char a i) f) := fun hw h => by
  obtain ⟨v, hv, h⟩ := h
  obtain ⟨⟨h1, h2, h3, h4⟩, rfl⟩ := gd_of hv
  have hM := cM_i (R := R) (s := s) (t := (s.K a).1) (n := (s.K a).2) (a := a) rfl (Nat.ble_eq_true_of_le h1) (Nat.ble_eq_true_of_le h2)
  rw [h3] at hM
  exact hG.1 _ _ _ _ _ _ _ hc (pg_ai (ok := pm_isChar) hM rfl ⟨h4, nx _ hw h⟩)
theorem kk_cs (hG : pm_cl kcl base X Rt G) {a : Nat} {i x : Int32} {f : cS → Prop} (hc : X.code pc = some .castore) (nx : ∀ s', KK sa R base G (pc + 1) L st s' kc ks (f s')) : KK sa R base G pc L (.int x :: .int i :: va_rf (some a) :: st) s kc ks (ob (wEc s a i x) f) := fun hw h => by
  obtain ⟨v, hv, h⟩ := h
  obtain ⟨⟨h1, h2, h3, h4⟩, rfl⟩ := gd_of hv
  have hM := cM_i (R := R) (s := s) (t := (s.K a).1) (n := (s.K a).2) (a := a) rfl (Nat.ble_eq_true_of_le h1) (Nat.ble_eq_true_of_le h2)
  have hse := cM_se (R := R) (s := s) (t := (s.K a).1) (n := (s.K a).2) (a := a) (i := i.toNatClampNeg) (v := vp_nar .char x) rfl (Nat.ble_eq_true_of_le h1) (Nat.ble_eq_true_of_le h2)
  rw [h3] at hM hse
  refine hG.1 _ _ _ _ _ _ _ hc (pg_ai (ok := pm_isChar) hM rfl ⟨hw.b a (by omega), h4, ?_⟩)
  rw [hse]
  exact nx _ (hw.k rfl) h
def cNm1 : Nat → String := fun t => match t with
  | 130 => "RoutingField$Link"
  | 131 => "RoutingField$Router"
  | 132 => "RoutingField$PrefixList"
  | 133 => "RoutingField$Datagram"
  | 134 => "RoutingField$Datagram"
  | 135 => "RoutingField$Route"
  | 136 => "RoutingField$Prefix"
  | 137 => "RoutingField$Prefix"
  | 138 => "RoutingField$Prefix"
  | 139 => "RoutingField$Port"
  | 144 => "RoutingField$Route"
  | 145 => "RoutingField$Route"
  | _ => "RoutingField$PrefixList"
set_option maxRecDepth 100000 in
theorem cAk_o {t : Nat} (h1 : 130 ≤ t) (h2 : t < 146) (h3 : cAk t < 99) : cAT t = .object (cNm1 t) ∧ ∃ w, kcl[cAk t]? = some w ∧ w.1 = cNm1 t := by
  obtain ⟨k, rfl⟩ : ∃ k, t = 130 + k := ⟨t - 130, by omega⟩
  have hk : k < 16 := by omega
  match k, hk, h3 with
  | 0, _, _ => exact ⟨rfl, _, rfl, rfl⟩
  | 1, _, _ => exact ⟨rfl, _, rfl, rfl⟩
  | 2, _, _ => exact ⟨rfl, _, rfl, rfl⟩
  | 3, _, _ => exact ⟨rfl, _, rfl, rfl⟩
  | 4, _, _ => exact ⟨rfl, _, rfl, rfl⟩
  | 5, _, _ => exact ⟨rfl, _, rfl, rfl⟩
  | 6, _, _ => exact ⟨rfl, _, rfl, rfl⟩
  | 7, _, _ => exact ⟨rfl, _, rfl, rfl⟩
  | 8, _, _ => exact ⟨rfl, _, rfl, rfl⟩
  | 9, _, _ => exact ⟨rfl, _, rfl, rfl⟩
  | 10, _, h => exact absurd h (by decide)
  | 11, _, h => exact absurd h (by decide)
  | 12, _, h => exact absurd h (by decide)
  | 13, _, _ => exact ⟨rfl, _, rfl, rfl⟩
  | 14, _, _ => exact ⟨rfl, _, rfl, rfl⟩
  | 15, _, _ => exact ⟨rfl, _, rfl, rfl⟩
  | n + 16, h, _ => exact absurd h (by omega)
theorem kk_aas (hG : pm_cl kcl base X Rt G) {a : Nat} {i : Int32} {x : Option Nat} {f : cS → Prop} (hc : X.code pc = some .aastore) (nx : ∀ s', KK sa R base G (pc + 1) L st s' kc ks (f s')) : KK sa R base G pc L (va_rf x :: .int i :: va_rf (some a) :: st) s kc ks (ob (wQ s a i x) f) := fun hw h => by
  obtain ⟨v, hv, h⟩ := h
  obtain ⟨⟨⟨h1, h2, h4⟩, h3, h5⟩, rfl⟩ := gd_of hv
  obtain ⟨e1, w, e2, e3⟩ := cAk_o h1 h2 h3
  refine c_as hG hc (t := (s.K a).1) (n := (s.K a).2) rfl (Nat.ble_eq_true_of_le h1) (Nat.ble_eq_true_of_le (by omega)) e1 hw.b h4 (fun b hb => ?_) (nx _ (hw.k rfl) h)
  obtain ⟨o1, o2, o3, o4⟩ := (h5 b hb).o
  exact ⟨(s.K b).1, w, o1, o2, o3, by rw [o4]; exact e2, e3⟩
theorem kk_len (hG : pm_cl kcl base X Rt G) {a : Nat} {f : Int32 → Prop} (hc : X.code pc = some .arraylength) (nx : ∀ v, KK sa R base G (pc + 1) L (.int v :: st) s kc ks (f v)) : KK sa R base G pc L (va_rf (some a) :: st) s kc ks (ob (aL s a) f) := fun hw h => by
  obtain ⟨v, hv, h⟩ := h
  obtain ⟨⟨h1, h2⟩, rfl⟩ := gd_of hv
  exact c_al hG hc (t := (s.K a).1) (n := (s.K a).2) rfl (Nat.ble_eq_true_of_le h1) (Nat.ble_eq_true_of_le h2) (nx _ hw h)
/-- rows that are there before all -/
theorem kk_sta (hG : pm_cl kcl base X Rt G) {a : Nat} {l : List Int32} {i : Int32} {f : Int32 → Prop} (hc : X.code pc = some .iaload) (hr : cW sa R base s → R a = some (.inl (.int, l.length, .inl fun i => l.getD i 0))) (nx : ∀ v, KK sa R base G (pc + 1) L (.int v :: st) s kc ks (f v)) : KK sa R base G pc L (.int i :: va_rf (some a) :: st) s kc ks (ob (rS l i) f) := fun hw h => by
  obtain ⟨v, hv, h⟩ := h
  obtain ⟨h1, rfl⟩ := gd_of hv
  exact pg_ia hG hc ((cM_r (hw.r (hr hw))).trans (hr hw)) h1 (nx _ hw h)
theorem kk_nz (hG : pm_cl kcl base X Rt G) {ins : Instr} {y : Int32} {pc' : Nat} {L' : pmL} {st' : List Value} (hc : X.code pc = some ins) (he : pm_ins kcl base X Rt G ins pc L st (cM R s) kc ks = (¬ y = 0 ∧ G pc' L' st' (cM R s) kc ks)) (n : KK sa R base G pc' L' st' s kc ks e) : KK sa R base G pc L st s kc ks (¬ y = 0 ∧ e) := fun hw h => pgc hG hc he h.1 (n hw h.2)
theorem kk_nzL (hG : pm_cl kcl base X Rt G) {ins : Instr} {y : Int64} {pc' : Nat} {L' : pmL} {st' : List Value} (hc : X.code pc = some ins) (he : pm_ins kcl base X Rt G ins pc L st (cM R s) kc ks = (¬ y = 0 ∧ G pc' L' st' (cM R s) kc ks)) (n : KK sa R base G pc' L' st' s kc ks e) : KK sa R base G pc L st s kc ks (¬ y = 0 ∧ e) := fun hw h => pgc hG hc he h.1 (n hw h.2)
/-- what is new -/
theorem kk_new (hG : pm_cl kcl base X Rt G) {i c n : Nat} {fs : List Value} {f : Nat → cS → Nat → Nat → Prop} (hc : X.code pc = some (.new i)) (ho : X.mk i = some (c, fs)) (ho2 : fs = obL (cNf c) (fun k => cDf (20 * c + k))) (hn : fs.length = n) (nx : ∀ q s' kc' ks', KK sa R base G (pc + 3) L (va_rf (some q) :: st) s' kc' ks' (f q s' kc' ks')) : KK sa R base G pc L st s kc ks (nwO sa s kc ks c n f) := fun hw h => by
  obtain ⟨h1, h2, u, ⟨u1, u2, u3⟩, h⟩ := h
  subst u3
  refine c_new hG u hc ho rfl ho2 (Nat.ble_eq_true_of_le u1) (Nat.ble_eq_true_of_le u2) hn h1 h2 (fun q hq hm => ?_)
  obtain ⟨hf, hr⟩ := hw.f hm
  exact nx q _ _ _ (hw.n hq hr (show u < 160 by omega)) (h q hf)
theorem kk_nar (hG : pm_cl kcl base X Rt G) {t : ArrayType} {ty : FieldType} {n : Int32} {f : Nat → cS → Nat → Nat → Prop} (hc : X.code pc = some (.newarray t)) (ht : pm_nar t = true) (hy : newarray.typeOf t = ty) (hz : pm_zero t = .inl fun _ => 0) (nx : ∀ q s' kc' ks', KK sa R base G (pc + 2) L (va_rf (some q) :: st) s' kc' ks' (f q s' kc' ks')) : KK sa R base G pc L (.int n :: st) s kc ks (nwA sa s kc ks ty n f) := fun hw h => by
  obtain ⟨k, rfl, h0, h1, h2, u, ⟨u1, u2, u3⟩, h⟩ := h
  refine c_nar hG u hc ht (u3.trans hy.symm) hz (Nat.ble_eq_true_of_le u1) (Nat.ble_eq_true_of_le u2) h0 h1 h2 (fun q hq hm => ?_)
  obtain ⟨hf, hr⟩ := hw.f hm
  exact nx q _ _ _ (hw.n hq hr (show u < 160 by omega)) (h q hf)
theorem kk_naq (hG : pm_cl kcl base X Rt G) {i : Nat} {C : String} {n : Int32} {f : Nat → cS → Nat → Nat → Prop} (hc : X.code pc = some (.anewarray i)) (ht : X.arr i = some C) (nx : ∀ q s' kc' ks', KK sa R base G (pc + 3) L (va_rf (some q) :: st) s' kc' ks' (f q s' kc' ks')) : KK sa R base G pc L (.int n :: st) s kc ks (nwQ sa s kc ks C n f) := fun hw h => by
  obtain ⟨k, rfl, h0, h1, h2, u, ⟨u1, u2, u3⟩, h⟩ := h
  refine c_naq hG u hc ht u3 (Nat.ble_eq_true_of_le u1) (Nat.ble_eq_true_of_le (by omega)) h0 h1 h2 (fun q hq hm => ?_)
  obtain ⟨hf, hr⟩ := hw.f hm
  exact nx q _ _ _ (hw.n hq hr (show u < 160 by omega)) (h q hf)
end KkRows
