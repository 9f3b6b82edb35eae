/-! A learned route is heard of again: both sides. -/
/-- what the model does with a route that is there -/
noncomputable def lnT (t : moS) (p1 p2 p4 p5 : Int32) (p6 p8 : Int64) (x1 : Int32) : Option moS := Option.bind (rdI t 110 x1) (fun x2 => (if x2 = (2 : Int32) then (Option.bind (rdI t 116 x1) (fun x3 => (if x3 = p2 then (Option.bind (rdJ t 117 x1) (fun x4 => (if x4 = p6 then (Option.bind (rdJ t 118 x1) (fun x5 => (if x5 = p8 then ((M_learn_b219 t p1 p2 p4 p5 p6 p8 x1 (1 : Int32))) else ((M_learn_b218 t p1 p2 p4 p5 p6 p8 x1))))) else ((M_learn_b218 t p1 p2 p4 p5 p6 p8 x1))))) else ((M_learn_b218 t p1 p2 p4 p5 p6 p8 x1))))) else ((some t))))
abbrev frP (t : moS) (k : Nat) (q : Int32) (h l : Int64) : Prop := t.I 116 k = q ∧ t.J 117 k = h ∧ t.J 118 k = l
abbrev diP (t : moS) (k : Nat) (metric : Int32) : Prop := ¬ (metric = t.I 111 k ∧ t.J 114 k = t.Z 164 ∧ t.J 115 k = t.Z 165)
abbrev haP (t : moS) (k : Nat) (metric : Int32) : Prop := metric = t.I 111 k ∧ metric < 16 ∧ ¬ t.S 1 - t.I 120 k < (t.I 121 k + 1) / 2
/-- its time begins anew -/
abbrev stP' (t : moS) (k : Nat) (q metric : Int32) (h l : Int64) : Prop := frP t k q h l ∧ t.I 111 k ≠ 16 ∧ metric < 16
/-- it is taken over -/
abbrev tkP (t : moS) (k : Nat) (q metric : Int32) (h l : Int64) : Prop := metric < t.I 111 k ∨ (frP t k q h l ∧ diP t k metric ∧ ¬ (t.I 111 k = 16 ∧ metric = 16)) ∨ (¬ frP t k q h l ∧ haP t k metric)
def tmT (t : moS) (r k : Nat) : moS := moSI (moSI t 120 k (t.S 1)) 121 k (t.I 41 r)
section Ag
variable {t : moS} {r k : Nat} {q metric tag : Int32} {h l : Int64}
theorem m_again (hN : ∀ k, k ∈ fRA → t.N k = 16200) (N41 : t.N 41 = 6) (hr : r < 6) (hk : k < 16200) (h2 : t.I 110 k = 2) : lnT t (nI r) q metric tag h l (nI k) = if tkP t k q metric h l then Option.bind (M_takeOver (if stP' t k q metric h l then tmT t r k else t) (nI r) q (nI k) metric tag h l) (fun s => some s) else some (if stP' t k q metric h l then tmT t r k else t) := by
  have rI : ∀ {u : moS} {g : Nat}, u.N = t.N → g ∈ fRA → rdI u g (nI k) = some (u.I g k) := fun {u g} e hg => rdI_n (by rw [e]; exact hN g hg) hk (by decide)
  have rJ : ∀ {u : moS} {g : Nat}, u.N = t.N → g ∈ fRA → rdJ u g (nI k) = some (u.J g k) := fun {u g} e hg => rdJ_n (by rw [e]; exact hN g hg) hk (by decide)
  have wI : ∀ {u : moS} {g : Nat} {v : Int32}, u.N = t.N → g ∈ fRA → wrI u g (nI k) v = some (moSI u g k v) := fun {u g v} e hg => wrI_n (by rw [e]; exact hN g hg) hk (by decide)
  -- behind the restart
  have b433 : ∀ (u : moS) (a12 a13 a14 : Int32), M_learn_b433 u (nI r) q metric tag h l (nI k) a12 a13 a14 = if a13 ≠ 0 ∨ (a14 ≠ 0 ∧ ¬ (a12 ≠ 0 ∧ metric = 16)) then Option.bind (M_takeOver u (nI r) q (nI k) metric tag h l) (fun s => some s) else some u := fun u a12 a13 a14 => by
    unfold M_learn_b433 M_learn_b455
    by_cases c1 : a13 = 0
    · rw [if_pos c1]
      by_cases c2 : a14 = 0
      · rw [if_pos c2, if_neg (fun z => z.elim (fun z => z c1) (fun z => z.1 c2))]
      · rw [if_neg c2]
        by_cases c3 : a12 = 0
        · rw [if_pos c3, if_pos (Or.inr ⟨c2, fun z => z.1 c3⟩)]
        · rw [if_neg c3]
          by_cases c4 : metric = 16
          · rw [if_pos c4, if_neg (fun z => z.elim (fun z => z c1) (fun z => z.2 ⟨c3, c4⟩))]
          · rw [if_neg c4, if_pos (Or.inr ⟨c2, fun z => c4 z.2⟩)]
    · rw [if_neg c1, if_pos (Or.inl c1)]
  have b392 : ∀ (a11 a12 a13 a14 : Int32), M_learn_b392 t (nI r) q metric tag h l (nI k) a11 a12 a13 a14 = M_learn_b433 (if a11 ≠ 0 ∧ a12 = 0 ∧ metric < 16 then tmT t r k else t) (nI r) q metric tag h l (nI k) a12 a13 a14 := fun a11 a12 a13 a14 => by
    unfold M_learn_b392
    by_cases c1 : a11 = 0
    · rw [if_pos c1, if_neg (fun z => z.1 c1)]
    · rw [if_neg c1]
      by_cases c2 : a12 = 0
      · rw [if_pos c2]
        by_cases c3 : metric < 16
        · rw [if_pos c3, if_pos ⟨c1, c2, c3⟩, wI rfl (by decide)]
          simp only [Option.bind_some]
          rw [rdI_n (t := moSI t 120 k (t.S 1)) (k := 41) (i := r) (n := 6) N41 hr (by decide), moSI_n (by decide)]
          simp only [Option.bind_some]
          rw [wI (u := moSI t 120 k (t.S 1)) rfl (by decide)]
          rfl
        · rw [if_neg c3, if_neg (fun z => c3 z.2.2)]
      · rw [if_neg c2, if_neg (fun z => c2 z.2.1)]
  have e367 : M_learn_b367 t (nI r) q metric tag h l (nI k) = some t := by
    unfold M_learn_b367 M_learn_b368
    exact if_pos rfl
  have e368 : M_learn_b368 t (nI r) q metric tag h l (nI k) 1 = Option.bind (M_takeOver t (nI r) q (nI k) metric tag h l) (fun s => some s) := by
    unfold M_learn_b368
    exact if_neg (by decide)
  have b306 : ∀ (a11 a12 a13 a14 : Int32), M_learn_b306 t (nI r) q metric tag h l (nI k) a11 a12 a13 a14 = if a11 = 0 ∧ a13 = 0 then (if haP t k metric then Option.bind (M_takeOver t (nI r) q (nI k) metric tag h l) (fun s => some s) else some t) else M_learn_b392 t (nI r) q metric tag h l (nI k) a11 a12 a13 a14 := fun a11 a12 a13 a14 => by
    by_cases cc : a11 = 0 ∧ a13 = 0
    · have lhs : M_learn_b306 t (nI r) q metric tag h l (nI k) a11 a12 a13 a14 = (if metric = t.I 111 k then (if metric < 16 then (if t.S 1 - t.I 120 k < (t.I 121 k + 1) / 2 then some t else Option.bind (M_takeOver t (nI r) q (nI k) metric tag h l) (fun s => some s)) else some t) else some t) := by
        unfold M_learn_b306
        rw [if_pos cc.1, if_pos cc.2, rI rfl (by decide), rI rfl (by decide), rI rfl (by decide)]
        simp only [Option.bind_some, e367, e368]
      rw [if_pos cc, lhs]
      by_cases d1 : metric = t.I 111 k
      · by_cases d2 : metric < 16
        · by_cases d3 : t.S 1 - t.I 120 k < (t.I 121 k + 1) / 2
          · rw [if_pos d1, if_pos d2, if_pos d3, if_neg (fun z : haP t k metric => z.2.2 d3)]
          · rw [if_pos d1, if_pos d2, if_neg d3, if_pos (show haP t k metric from ⟨d1, d2, d3⟩)]
        · rw [if_pos d1, if_neg d2, if_neg (fun z : haP t k metric => d2 z.2.1)]
      · rw [if_neg d1, if_neg (fun z : haP t k metric => d1 z.1)]
    · rw [if_neg cc]
      unfold M_learn_b306
      by_cases c1 : a11 = 0
      · rw [if_pos c1, if_neg (fun z : a13 = 0 => cc ⟨c1, z⟩)]
      · rw [if_neg c1]
  have b257 : ∀ (a11 a12 a13 : Int32), M_learn_b257 t (nI r) q metric tag h l (nI k) a11 a12 a13 = M_learn_b306 t (nI r) q metric tag h l (nI k) a11 a12 a13 (if diP t k metric then 1 else 0) := fun a11 a12 a13 => by
    unfold M_learn_b257 M_learn_b301
    rw [rI rfl (by decide), rJ rfl (by decide), rJ rfl (by decide)]
    simp only [Option.bind_some]
    by_cases d1 : metric = t.I 111 k
    · rw [if_pos d1]
      by_cases d2 : t.J 114 k = t.Z 164
      · rw [if_pos d2]
        by_cases d3 : t.J 115 k = t.Z 165
        · rw [if_pos d3, if_neg (fun z : diP t k metric => z ⟨d1, d2, d3⟩)]
        · rw [if_neg d3, if_pos (show diP t k metric from fun z => d3 z.2.2)]
      · rw [if_neg d2, if_pos (show diP t k metric from fun z => d2 z.2.1)]
    · rw [if_neg d1, if_pos (show diP t k metric from fun z => d1 z.1)]
  have b219 : ∀ (a11 : Int32), M_learn_b219 t (nI r) q metric tag h l (nI k) a11 = M_learn_b306 t (nI r) q metric tag h l (nI k) a11 (if t.I 111 k = 16 then 1 else 0) (if metric < t.I 111 k then 1 else 0) (if diP t k metric then 1 else 0) := fun a11 => by
    unfold M_learn_b219 M_learn_b238
    rw [rI rfl (by decide)]
    simp only [Option.bind_some]
    by_cases d1 : t.I 111 k = 16
    · rw [if_pos d1, if_pos d1]
      by_cases d2 : metric < t.I 111 k
      · rw [if_pos d2, if_pos d2, b257]
      · rw [if_neg d2, if_neg d2, b257]
    · rw [if_neg d1, if_neg d1]
      by_cases d2 : metric < t.I 111 k
      · rw [if_pos d2, if_pos d2, b257]
      · rw [if_neg d2, if_neg d2, b257]
  have eT : lnT t (nI r) q metric tag h l (nI k) = M_learn_b219 t (nI r) q metric tag h l (nI k) (if frP t k q h l then 1 else 0) := by
    unfold lnT M_learn_b218
    rw [rI rfl (by decide), rI rfl (by decide), rJ rfl (by decide), rJ rfl (by decide), h2]
    simp only [Option.bind_some]
    rw [if_pos (by first | rfl | trivial)]
    by_cases d1 : t.I 116 k = q
    · rw [if_pos d1]
      by_cases d2 : t.J 117 k = h
      · rw [if_pos d2]
        by_cases d3 : t.J 118 k = l
        · rw [if_pos d3, if_pos (show frP t k q h l from ⟨d1, d2, d3⟩)]
        · rw [if_neg d3, if_neg (fun z : frP t k q h l => d3 z.2.2)]
      · rw [if_neg d2, if_neg (fun z : frP t k q h l => d2 z.2.1)]
    · rw [if_neg d1, if_neg (fun z : frP t k q h l => d1 z.1)]
  rw [eT, b219, b306]
  by_cases f1 : frP t k q h l
  · rw [if_pos f1, if_neg (fun z => absurd z.1 (by decide)), b392, b433]
    have e1 : ((1 : Int32) ≠ 0 ∧ (if t.I 111 k = 16 then (1 : Int32) else 0) = 0 ∧ metric < 16) ↔ stP' t k q metric h l := by
      by_cases d : t.I 111 k = 16
      · rw [if_pos d]
        exact ⟨fun z => absurd z.2.1 (by decide), fun z => absurd d z.2.1⟩
      · rw [if_neg d]
        exact ⟨fun z => ⟨f1, d, z.2.2⟩, fun z => ⟨by decide, rfl, z.2.2⟩⟩
    have e2 : ((if metric < t.I 111 k then (1 : Int32) else 0) ≠ 0 ∨ ((if diP t k metric then (1 : Int32) else 0) ≠ 0 ∧ ¬ ((if t.I 111 k = 16 then (1 : Int32) else 0) ≠ 0 ∧ metric = 16))) ↔ tkP t k q metric h l := by
      have i1 : ∀ (c : Prop) [Decidable c], (if c then (1 : Int32) else 0) ≠ 0 ↔ c := fun c _ => by
        by_cases z : c
        · rw [if_pos z]; exact ⟨fun _ => z, fun _ => by decide⟩
        · rw [if_neg z]; exact ⟨fun y => absurd rfl y, fun y => absurd y z⟩
      rw [i1, i1, i1]
      constructor
      · rintro (z | z)
        · exact Or.inl z
        · exact Or.inr (Or.inl ⟨f1, z⟩)
      · rintro (z | z | z)
        · exact Or.inl z
        · exact Or.inr z.2
        · exact absurd f1 z.1
    simp only [e1, e2]
  · rw [if_neg f1]
    have nst : ¬ stP' t k q metric h l := fun z => f1 z.1
    rw [if_neg nst]
    by_cases d : metric < t.I 111 k
    · rw [if_pos d, if_neg (fun z => absurd z.2 (by decide)), b392, b433, if_pos (show tkP t k q metric h l from Or.inl d)]
      have e0 : (if (0 : Int32) ≠ 0 ∧ (if t.I 111 k = 16 then (1 : Int32) else 0) = 0 ∧ metric < 16 then tmT t r k else t) = t := if_neg (fun z => absurd rfl z.1)
      rw [e0]
      exact if_pos (Or.inl (by decide))
    · rw [if_neg d, if_pos ⟨rfl, rfl⟩]
      by_cases e : haP t k metric
      · rw [if_pos e, if_pos (show tkP t k q metric h l from Or.inr (Or.inr ⟨f1, e⟩))]
      · rw [if_neg e, if_neg]
        rintro (z | z | z)
        · exact d z
        · exact f1 z.1
        · exact e z.2
end Ag
