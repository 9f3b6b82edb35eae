/-! The start: the class's new field in the relation. -/
/-- the parts that the twenty-one new things play -/
def stR : List (Nat × Nat) := [(30, 0), (1, 0), (101, 64), (32, 0), (124, 64), (32, 0), (124, 64), (130, 10), (131, 6), (132, 8), (133, 256), (134, 258), (6, 0), (3, 0), (129, 600), (12, 0), (13, 0), (29, 0), (144, 16), (18, 0), (39, 0)]
def stX (i : Nat) : Nat × Nat := stR.getD i (0, 0)
def pT (g : Nat) : Option Nat := match g with
  | 220 => some 1
  | 221 => some 3
  | 222 => some 5
  | 226 => some 7
  | 228 => some 8
  | 230 => some 9
  | 232 => some 10
  | 234 => some 11
  | 236 => some 12
  | 237 => some 17
  | 238 => some 19
  | 239 => some 20
  | 40 => some 13
  | 41 => some 15
  | 42 => some 16
  | 200 => some 18
  | _ => none
def stq (L : List Nat) (i : Nat) : Nat := L.getD i 0
def stK (L : List Nat) (a : Nat) : Nat × Nat := if a ∈ L then stX (L.idxOf a) else (0, 0)
def stI (g : Nat) : Int32 := if g = 100 ∨ g = 44 ∨ g = 50 ∨ g = 51 then 4 else if g = 43 then 1 else 0
def sPt (L : List Nat) (g a : Nat) : Option Nat := if g = 0 then (if a = stq L 1 then some (stq L 2) else if a = stq L 3 then some (stq L 4) else if a = stq L 5 then some (stq L 6) else some (stq L 14)) else (pT g).map (stq L)
def stS (L : List Nat) : cS := (stK L, fun g _ => stI g, fun _ _ => 0, sPt L, fun _ _ => 0, fun _ _ => none)
def stH (L : List Nat) (g a : Nat) : Nat := (sPt L g a).getD 0
def stG (L : List Nat) (b _i : Nat) : Nat := if b = 11 then stq L 12 else 0
/-- all final references of the start -/
def tOk (i g : Nat) : Bool := match tyF (stX i).1 g with
  | none => true
  | some e => (match pT g with
    | none => false
    | some j => Nat.blt j 21 && (stX j).1 == e.1 && (e.2 == 0 || (stX j).2 == e.2)) && (g != 0) && (i == if g < 100 then 12 else 0)
theorem tOk_all : ((List.range 21).all fun i => (List.range 250).all fun g => tOk i g) = true := by decide +kernel
theorem tyF_250 {u g : Nat} {e : Nat × Nat} (h : tyF u g = some e) : g < 250 := by
  unfold tyF at h
  split at h <;> first | (cases h; done) | decide
theorem tyF_0 {g : Nat} : tyF 0 g = none := by
  unfold tyF
  split <;> first | rfl | (rename_i h _; exact absurd h (by decide)) | (rename_i h; exact absurd h (by decide))
section St
variable {L : List Nat} {a b g i j : Nat} {sa : Nat → Nat}
theorem st_in (hL : L.length = 21) (hn : L.Nodup) (hi : i < 21) (hj : j < 21) (e : stq L i = stq L j) : i = j := by
  unfold stq at e
  rw [List.getD_eq_getElem?_getD, List.getD_eq_getElem?_getD, List.getElem?_eq_getElem (by omega), List.getElem?_eq_getElem (by omega)] at e
  have e : L[i] = L[j] := e
  rcases Nat.lt_trichotomy i j with h | h | h
  · exact absurd e (List.pairwise_iff_getElem.mp hn i j (by omega) (by omega) h)
  · exact h
  · exact absurd e.symm (List.pairwise_iff_getElem.mp hn j i (by omega) (by omega) h)
theorem st_mem (hL : L.length = 21) (hi : i < 21) : stq L i ∈ L := by
  unfold stq
  rw [List.getD_eq_getElem?_getD, List.getElem?_eq_getElem (by omega)]
  exact List.getElem_mem _
theorem st_ix (hL : L.length = 21) (h : a ∈ L) : L.idxOf a < 21 ∧ stq L (L.idxOf a) = a := by
  have hi : L.idxOf a < L.length := List.idxOf_lt_length_of_mem h
  refine ⟨by omega, ?_⟩
  unfold stq
  rw [List.getD_eq_getElem?_getD, List.getElem?_eq_getElem hi]
  exact List.getElem_idxOf hi
theorem stK_q (hL : L.length = 21) (hn : L.Nodup) (hi : i < 21) : (stS L).K (stq L i) = stX i := by
  show (if stq L i ∈ L then stX (L.idxOf (stq L i)) else (0, 0)) = stX i
  have hm := st_mem hL hi
  obtain ⟨h1, h2⟩ := st_ix hL hm
  rw [if_pos hm, st_in hL hn h1 hi h2]
theorem stK_n (h : a ∉ L) : (stS L).K a = (0, 0) := if_neg h
theorem st_ex (hL : L.length = 21) (h : ((stS L).K a).1 ≠ 0) : ∃ i, i < 21 ∧ a = stq L i := by
  by_cases c : a ∈ L
  · obtain ⟨h1, h2⟩ := st_ix hL c
    exact ⟨_, h1, h2.symm⟩
  · exact absurd (congrArg Prod.fst (stK_n (L := L) c)) h
/-- what plays a part is one of them -/
theorem st_u (hL : L.length = 21) (hn : L.Nodup) {u : Nat} (hu : u ≠ 0) (h : ((stS L).K a).1 = u) : ∃ i, i < 21 ∧ a = stq L i ∧ (stX i).1 = u := by
  obtain ⟨i, hi, e⟩ := st_ex hL (a := a) (by rw [h]; exact hu)
  refine ⟨i, hi, e, ?_⟩
  rw [e, stK_q hL hn hi] at h
  exact h
theorem st_o (hL : L.length = 21) (hn : L.Nodup) {c : Nat} (h : okO (stS L) c a) : ∃ i, i < 21 ∧ a = stq L i ∧ (1 ≤ (stX i).1 ∧ (stX i).1 < 100 ∧ cKn (stX i).1 = c) := by
  unfold okO at h
  obtain ⟨i, hi, e⟩ := st_ex hL (a := a) (by omega)
  refine ⟨i, hi, e, ?_⟩
  rw [e, stK_q hL hn hi] at h
  exact h
theorem st_four : ∀ i, i < 21 → (1 ≤ (stX i).1 ∧ (stX i).1 < 100 ∧ cKn (stX i).1 = 0) → i = 1 ∨ i = 3 ∨ i = 5 ∨ i = 13 := by decide
theorem st_p0 (hL : L.length = 21) (hn : L.Nodup) (h : i = 1 ∨ i = 3 ∨ i = 5 ∨ i = 13) : sPt L 0 (stq L i) = some (stq L (i + 1)) := by
  rcases h with rfl | rfl | rfl | rfl
  · show (if stq L 1 = stq L 1 then _ else _) = _
    rw [if_pos rfl]
  · show (if stq L 3 = stq L 1 then _ else if stq L 3 = stq L 3 then _ else _) = _
    rw [if_neg (fun z => absurd (st_in hL hn (by decide) (by decide) z) (by decide)), if_pos rfl]
  · show (if stq L 5 = stq L 1 then _ else if stq L 5 = stq L 3 then _ else if stq L 5 = stq L 5 then _ else _) = _
    rw [if_neg (fun z => absurd (st_in hL hn (by decide) (by decide) z) (by decide)), if_neg (fun z => absurd (st_in hL hn (by decide) (by decide) z) (by decide)), if_pos rfl]
  · show (if stq L 13 = stq L 1 then _ else if stq L 13 = stq L 3 then _ else if stq L 13 = stq L 5 then _ else _) = _
    rw [if_neg (fun z => absurd (st_in hL hn (by decide) (by decide) z) (by decide)), if_neg (fun z => absurd (st_in hL hn (by decide) (by decide) z) (by decide)), if_neg (fun z => absurd (st_in hL hn (by decide) (by decide) z) (by decide))]
theorem st_ty (hL : L.length = 21) (hn : L.Nodup) : TY cNo (stH L) (stS L) := by
  have key : ∀ a g e, tyF ((stS L).K a).1 g = some e → ∃ i j, i < 21 ∧ a = stq L i ∧ j < 21 ∧ sPt L g a = some (stq L j) ∧ (stX j).1 = e.1 ∧ (e.2 = 0 ∨ (stX j).2 = e.2) ∧ i = if g < 100 then 12 else 0 := by
    intro a g e h
    have hg := tyF_250 h
    have h0 : ((stS L).K a).1 ≠ 0 := fun z => by rw [z, tyF_0] at h; cases h
    obtain ⟨i, hi, ea⟩ := st_ex hL h0
    rw [ea, stK_q hL hn hi] at h
    have ok := List.all_eq_true.mp (List.all_eq_true.mp tOk_all i (List.mem_range.mpr hi)) g (List.mem_range.mpr hg)
    unfold tOk at ok
    rw [h] at ok
    dsimp only at ok
    rw [Bool.and_eq_true, Bool.and_eq_true] at ok
    obtain ⟨⟨ok1, ok2⟩, ok3⟩ := ok
    cases ep : pT g with
    | none => rw [ep] at ok1; cases ok1
    | some j =>
      rw [ep] at ok1
      dsimp only at ok1
      rw [Bool.and_eq_true, Bool.and_eq_true, Bool.or_eq_true] at ok1
      obtain ⟨⟨z1, z2⟩, z3⟩ := ok1
      refine ⟨i, j, hi, ea, Nat.blt_eq.mp z1, ?_, eq_of_beq z2, z3.imp eq_of_beq eq_of_beq, eq_of_beq ok3⟩
      show (if g = 0 then _ else (pT g).map (stq L)) = _
      rw [if_neg (fun z => by rw [z] at ok2; exact absurd ok2 (by decide)), ep]
      rfl
  refine ⟨fun a g v n _ h => ?_, fun a b g e e' _ _ h h' _ _ _ _ => ?_, fun a b d ha hb pa pb => ?_⟩
  · obtain ⟨i, j, hi, ea, hj, hp, h1, h2, -⟩ := key a g _ h
    have eH : stH L g a = stq L j := by unfold stH; rw [hp]; rfl
    refine ⟨by rw [eH]; exact hp, ?_, ?_⟩
    · rw [eH, stK_q hL hn hj]; exact h1
    · rw [eH, stK_q hL hn hj]; exact h2
  · obtain ⟨i, j, hi, ea, hj, hp, h1, h2, e3⟩ := key a g _ h
    obtain ⟨i', j', hi', ea', hj', hp', h1', h2', e3'⟩ := key b g _ h'
    rw [ea, ea', e3, e3']
  · obtain ⟨i, hi, ea, h1⟩ := st_o hL hn ha
    obtain ⟨i', hi', eb, h1'⟩ := st_o hL hn hb
    have f1 := st_four i hi h1
    have f2 := st_four i' hi' h1'
    have pa : sPt L 0 a = some d := pa
    have pb : sPt L 0 b = some d := pb
    rw [ea, st_p0 hL hn f1] at pa
    rw [eb, st_p0 hL hn f2, ← pa] at pb
    have := st_in hL hn (by omega) (by omega) (Option.some.inj pb)
    rw [ea, eb]
    congr 1
    omega
end St
