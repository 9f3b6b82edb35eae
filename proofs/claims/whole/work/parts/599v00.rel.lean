/-! Class and model side by side: where the class's parts lie, and what stands in them. -/
/-- final references: the part that the target plays, its length -/
def tyF (u g : Nat) : Option (Nat × Nat) := match u, g with
  | 30, 220 => some (1, 0)
  | 30, 226 => some (130, 10)
  | 30, 228 => some (131, 6)
  | 30, 230 => some (132, 8)
  | 30, 232 => some (133, 256)
  | 30, 234 => some (134, 258)
  | 30, 237 => some (29, 0)
  | 30, 238 => some (18, 0)
  | 30, 239 => some (39, 0)
  | 4, 21 => some (103, 16)
  | 4, 23 => some (109, 4)
  | 4, 24 => some (110, 4)
  | 4, 25 => some (111, 4)
  | 4, 26 => some (112, 4)
  | 4, 27 => some (142, 4)
  | 4, 30 => some (113, 5)
  | 4, 31 => some (119, 80)
  | 5, 21 => some (103, 16)
  | 5, 23 => some (109, 4)
  | 5, 24 => some (110, 4)
  | 5, 25 => some (111, 4)
  | 5, 26 => some (112, 4)
  | 5, 27 => some (142, 4)
  | 5, 30 => some (113, 5)
  | 5, 31 => some (119, 80)
  | 6, 40 => some (3, 0)
  | 6, 41 => some (12, 0)
  | 6, 42 => some (13, 0)
  | 7, 67 => some (2, 0)
  | 8, 80 => some (7, 0)
  | 8, 86 => some (4, 0)
  | 8, 87 => some (136, 4)
  | 8, 89 => some (114, 4)
  | 8, 90 => some (116, 4)
  | 8, 91 => some (137, 4)
  | 20, 121 => some (138, 16)
  | 20, 122 => some (102, 16)
  | 20, 123 => some (105, 16)
  | 20, 124 => some (106, 16)
  | 21, 121 => some (138, 32)
  | 21, 122 => some (102, 32)
  | 21, 123 => some (105, 32)
  | 21, 124 => some (106, 32)
  | 22, 140 => some (30, 0)
  | 22, 141 => some (107, 24)
  | 22, 142 => some (108, 24)
  | 22, 146 => some (19, 0)
  | 22, 147 => some (127, 16)
  | 22, 151 => some (5, 0)
  | 23, 160 => some (9, 0)
  | 23, 161 => some (10, 0)
  | 23, 162 => some (11, 0)
  | 24, 160 => some (36, 0)
  | 24, 161 => some (37, 0)
  | 24, 162 => some (38, 0)
  | 25, 160 => some (33, 0)
  | 25, 161 => some (34, 0)
  | 25, 162 => some (35, 0)
  | 26, 180 => some (30, 0)
  | 26, 184 => some (139, 4)
  | 26, 186 => some (27, 0)
  | 26, 187 => some (28, 0)
  | 26, 188 => some (143, 2)
  | 26, 189 => some (140, 8)
  | 26, 191 => some (141, 8)
  | 26, 193 => some (121, 2)
  | 26, 194 => some (122, 2)
  | 26, 195 => some (123, 3)
  | 26, 196 => some (104, 11)
  | _, _ => none
/-- final references lead where H says; two lead to one place only where that is meant -/
def TY (U : Nat → Prop) (H : Nat → Nat → Nat) (s : cS) : Prop := (∀ a g v n, ¬ U a → tyF (s.K a).1 g = some (v, n) → s.P g a = some (H g a) ∧ (s.K (H g a)).1 = v ∧ (n = 0 ∨ (s.K (H g a)).2 = n)) ∧ (∀ a b g e e', ¬ U a → ¬ U b → tyF (s.K a).1 g = some e → tyF (s.K b).1 g = some e' → g ≠ 80 → g ≠ 140 → g ≠ 180 → H g a = H g b → a = b) ∧ ∀ a b d, okO s 0 a → okO s 0 b → s.P 0 a = some d → s.P 0 b = some d → a = b
abbrev cNo : Nat → Prop := fun _ => False
theorem okr {s : cS} {a u : Nat} (h : (s.K a).1 = u) (c : Nat) (h2 : 1 ≤ u ∧ u < 100 ∧ cKn u = c := by decide) : okO s c a := by
  unfold okO
  rw [h]
  exact h2
theorem TY.at {H : Nat → Nat → Nat} {s : cS} (h : TY cNo H s) {a u : Nat} (ha : (s.K a).1 = u) (g v n : Nat) (e : tyF u g = some (v, n) := by rfl) : s.P g a = some (H g a) ∧ (s.K (H g a)).1 = v ∧ (n = 0 ∨ (s.K (H g a)).2 = n) := h.1 a g v n (fun z => z) (by rw [ha]; exact e)
theorem TY.p {H : Nat → Nat → Nat} {s : cS} (h : TY cNo H s) {a u : Nat} (ha : (s.K a).1 = u) (g v : Nat) (e : tyF u g = some (v, 0) := by rfl) : s.P g a = some (H g a) ∧ (s.K (H g a)).1 = v := by
  obtain ⟨h1, h2, -⟩ := h.at ha g v 0 e
  exact ⟨h1, h2⟩
theorem TY.r {H : Nat → Nat → Nat} {s : cS} (h : TY cNo H s) {a u : Nat} (ha : (s.K a).1 = u) (g v n : Nat) (e : tyF u g = some (v, n) := by rfl) (hn : n ≠ 0 := by decide) : s.P g a = some (H g a) ∧ s.K (H g a) = (v, n) := by
  obtain ⟨h1, h2, h3⟩ := h.at ha g v n e
  exact ⟨h1, Prod.ext h2 (h3.resolve_left hn)⟩
theorem TY.i {H : Nat → Nat → Nat} {s : cS} (h : TY cNo H s) {a b u u' : Nat} (ha : (s.K a).1 = u) (hb : (s.K b).1 = u') (g : Nat) (hg : (tyF u g).isSome = true ∧ (tyF u' g).isSome = true ∧ g ≠ 80 ∧ g ≠ 140 ∧ g ≠ 180 := by decide) (e : H g a = H g b) : a = b := by
  obtain ⟨v, hv⟩ := Option.isSome_iff_exists.mp hg.1
  obtain ⟨v', hv'⟩ := Option.isSome_iff_exists.mp hg.2.1
  exact h.2.1 a b g v v' (fun z => z) (fun z => z) (by rw [ha]; exact hv) (by rw [hb]; exact hv') hg.2.2.1 hg.2.2.2.1 hg.2.2.2.2 e
/-- the first n of a row, as a list -/
def tl (f : Nat → Int32) (n : Nat) : List Int32 := (List.range n).map f
theorem tl_len (f : Nat → Int32) (n : Nat) : (tl f n).length = n := by unfold tl; rw [List.length_map, List.length_range]
theorem tl_get {f : Nat → Int32} {n i : Nat} (h : i < n) : (tl f n).getD i 0 = f i := by
  unfold tl
  rw [List.getD_eq_getElem?_getD, List.getElem?_map, List.getElem?_range h]
  rfl
theorem tl_eq {f g : Nat → Int32} {n : Nat} (h : ∀ i, i < n → f i = g i) : tl f n = tl g n := by
  unfold tl
  exact List.map_congr_left fun i hi => h i (List.mem_range.mp hi)
theorem tl_of {l : List Int32} {f : Nat → Int32} {n : Nat} (hn : l.length = n) (h : ∀ i, i < n → l.getD i 0 = f i) : l = tl f n := by
  apply List.ext_getElem?
  intro i
  by_cases c : i < n
  · have h1 := h i c
    rw [List.getD_eq_getElem?_getD, List.getElem?_eq_getElem (by omega)] at h1
    rw [List.getElem?_eq_getElem (by omega)]
    unfold tl
    rw [List.getElem?_map, List.getElem?_range c]
    exact congrArg some h1
  · rw [List.getElem?_eq_none (by omega), List.getElem?_eq_none (by rw [tl_len]; omega)]
/-- the numbers of things in the model -/
abbrev cL (t : moS) : Nat := (t.S 17).toNatClampNeg
abbrev cS' (t : moS) : Nat := (t.S 27).toNatClampNeg
abbrev cR (t : moS) : Nat := (t.S 37).toNatClampNeg
abbrev cI (t : moS) (r : Nat) : Nat := (t.I 70 r).toNatClampNeg
abbrev cN (t : moS) (r : Nat) : Nat := (t.I 105 r).toNatClampNeg
abbrev cF (t : moS) : Nat := (t.S 123).toNatClampNeg
theorem cnt_of {x : Int32} {n : Nat} (h : x = nI x.toNatClampNeg) (hn : x.toNatClampNeg = n) : x = nI n := by rw [← hn]; exact h
/-- a name's letters, and its number -/
def nmL (x : List Int32) (c : Int64) : Prop := c = cdL x ∧ 1 ≤ x.length ∧ x.length ≤ 12 ∧ ∀ y ∈ x, nmC y ∧ y ≠ 42
/-- a prefix object's values -/
def PF (s : cS) (p : Nat) (f : Int32) (h l : Int64) (n : Int32) : Prop := s.I 100 p = f ∧ s.J 101 p = h ∧ s.J 102 p = l ∧ s.I 103 p = n
/-- a reference to an interface by its number -/
def ifp (G : Nat → Nat → Nat) (i : Int32) : Option Nat := if i = -1 then none else some (G 2 i.toNatClampNeg)
/-- a route of the class and one of the model -/
def RW (G H : Nat → Nat → Nat) (s : cS) (t : moS) (a k : Nat) : Prop := PF s (H 160 a) (fam (t.I 106 k)) (t.J 107 k) (t.J 108 k) (t.I 109 k) ∧ (s.I 163 a = t.I 110 k ∧ s.I 164 a = t.I 111 k ∧ s.I 165 a = t.I 112 k ∧ s.I 167 a = t.I 119 k) ∧ s.P 166 a = ifp G (t.I 113 k) ∧ (s.I 100 (H 161 a) = fam (t.I 106 k) ∧ s.J 101 (H 161 a) = t.J 114 k ∧ s.J 102 (H 161 a) = t.J 115 k) ∧ (t.I 110 k = 2 → t.I 111 k ≠ 16 → s.I 168 a = t.I 120 k ∧ s.I 169 a = t.I 121 k ∧ s.I 170 a = t.I 120 k + t.I 121 k) ∧ (t.I 110 k = 2 → t.I 111 k = 16 → s.I 170 a = t.I 122 k) ∧ (t.I 110 k = 2 → t.I 113 k ≠ -1 → s.I 100 (H 162 a) = fam (t.I 106 k) ∧ s.J 101 (H 162 a) = t.J 117 k ∧ s.J 102 (H 162 a) = t.J 118 k)
/-- routers and what belongs to them alone, as numbers -/
def RRt (G H : Nat → Nat → Nat) (sa : Nat → Nat) (x : Nat) (s : cS) (t : moS) (r : Nat) : Prop := ((s.K (G 1 r)).1 = 26 ∧ s.Q (H 228 x) r = some (G 1 r) ∧ H 180 (G 1 r) = x) ∧ (∃ nm, s.P 181 (G 1 r) = some (H 181 (G 1 r)) ∧ isTx sa s (H 181 (G 1 r)) nm ∧ nmL nm (t.J 38 r)) ∧ (s.I 182 (G 1 r) = nI r ∧ s.I 183 (G 1 r) = t.I 39 r ∧ s.I 185 (G 1 r) = t.I 70 r ∧ s.I 197 (G 1 r) = t.I 43 r ∧ s.I 198 (G 1 r) = t.I 44 r) ∧ (s.E (H 195 (G 1 r)) 0 = t.I 40 r ∧ s.E (H 195 (G 1 r)) 1 = t.I 41 r ∧ s.E (H 195 (G 1 r)) 2 = t.I 42 r) ∧ ∀ i, i < 11 → s.E (H 196 (G 1 r)) i = t.I 45 (11 * r + i)
/-- a table of the class: n rows of it hold something, hw are there; the rows' addresses are those of g -/
def RTa (s : cS) (tb u ur n hw mx : Nat) (g : Nat → Nat) : Prop := s.I 201 tb = nI n ∧ n ≤ hw ∧ hw ≤ mx ∧ ∃ w cap, s.P 200 tb = some w ∧ s.K w = (u, cap) ∧ hw ≤ cap ∧ 16 ≤ cap ∧ cap ≤ 2 * mx ∧ (∀ j, j < hw → s.Q w j = some (g j) ∧ (s.K (g j)).1 = ur) ∧ (∀ j, hw ≤ j → s.Q w j = none) ∧ ∀ i j, i < hw → j < hw → g i = g j → i = j
/-- a router's table -/
def RTb (G H : Nat → Nat → Nat) (s : cS) (t : moS) (r : Nat) : Prop := RTa s (H 186 (G 1 r)) 135 23 (cN t r) (G 13 r) 2700 (fun j => G 4 (2700 * r + j)) ∧ (∀ j, j < cN t r → RW G H s t (G 4 (2700 * r + j)) (2700 * r + j)) ∧ ∀ j, j < cN t r → t.I 110 (2700 * r + j) = 2 → ¬ s.I 170 (G 4 (2700 * r + j)) < s.I 199 (G 1 r)
/-- a router's own routes, in order: row j is the model's G 7 -/
def RSt (G H : Nat → Nat → Nat) (s : cS) (t : moS) (r : Nat) : Prop := RTa s (H 187 (G 1 r)) 145 24 (t.I 46 r).toNatClampNeg (G 14 r) 32 (fun j => G 6 (32 * r + j)) ∧ (∀ j, j < (t.I 46 r).toNatClampNeg → G 7 (32 * r + j) < (t.I 46 r).toNatClampNeg ∧ PF s (H 160 (G 6 (32 * r + j))) (fam (t.I 47 (32 * r + G 7 (32 * r + j)))) (t.J 48 (32 * r + G 7 (32 * r + j))) (t.J 49 (32 * r + G 7 (32 * r + j))) (t.I 50 (32 * r + G 7 (32 * r + j))) ∧ s.I 164 (G 6 (32 * r + j)) = t.I 51 (32 * r + G 7 (32 * r + j)) ∧ s.I 165 (G 6 (32 * r + j)) = t.I 52 (32 * r + G 7 (32 * r + j))) ∧ ∀ i j, i < j → j < (t.I 46 r).toNatClampNeg → cPk s (H 160 (G 6 (32 * r + i))) < cPk s (H 160 (G 6 (32 * r + j)))
/-- links -/
def RLk (G H : Nat → Nat → Nat) (sa : Nat → Nat) (x : Nat) (s : cS) (t : moS) (i : Nat) : Prop := ((s.K (G 0 i)).1 = 7 ∧ s.Q (H 226 x) i = some (G 0 i)) ∧ (∃ nm, s.P 60 (G 0 i) = some (H 60 (G 0 i)) ∧ isTx sa s (H 60 (G 0 i)) nm ∧ nmL nm (t.J 18 i)) ∧ (s.I 61 (G 0 i) = t.I 19 i ∧ s.I 62 (G 0 i) = t.I 20 i ∧ s.I 63 (G 0 i) = t.I 21 i ∧ s.I 64 (G 0 i) = t.I 22 i ∧ s.I 65 (G 0 i) = t.I 23 i ∧ s.I 66 (G 0 i) = t.I 24 i) ∧ ∃ cap, cap ≤ 1200 ∧ BL s (H 67 (G 0 i)) 125 (tl (fun j => t.I 26 (700 * i + j)) (t.I 25 i).toNatClampNeg) cap
/-- an interface's address of a family -/
def RAd (G : Nat → Nat → Nat) (s : cS) (t : moS) (q f : Nat) : Prop := (t.I 75 (2 * q + f) = 0 ∧ s.P (81 + f) (G 2 q) = none) ∨ (t.I 75 (2 * q + f) = 1 ∧ ∃ p, s.P (81 + f) (G 2 q) = some p ∧ (s.K p).1 = 14 ∧ PF s p (fam (nI f)) (t.J 76 (2 * q + f)) (t.J 77 (2 * q + f)) (t.I 78 (2 * q + f)))
/-- the words of a split, as numbers of the class and of the model -/
def spl (c : Int32) (m : Int64) : Prop := (c = 0 ∧ m = 24246) ∨ (c = 1 ∧ m = 1969498085) ∨ (c = 2 ∧ m = 1677407014)
/-- a secret's bytes: n of them, then 0s -/
def RSe (f : Nat → Int32) (g : Nat → Int32) (n : Nat) : Prop := n ≤ 16 ∧ (∀ i, i < n → f i = g i ∧ ∃ j, g i = nI j ∧ 33 ≤ j ∧ j ≤ 126) ∧ ∀ i, n ≤ i → i < 16 → f i = 0
/-- an interface's keys -/
def RCh (G H : Nat → Nat → Nat) (s : cS) (t : moS) (q : Nat) : Prop := s.I 20 (H 86 (G 2 q)) = (if t.I 79 q = 1 then 1 else 0) ∧ s.I 22 (H 86 (G 2 q)) = t.I 82 q ∧ (∀ k, k < (t.I 82 q).toNatClampNeg → s.E (H 23 (H 86 (G 2 q))) k = t.I 83 (4 * q + k) ∧ s.E (H 24 (H 86 (G 2 q))) k = (if t.I 84 (4 * q + k) = 0 then 16 else 20) ∧ s.E (H 25 (H 86 (G 2 q))) k = t.I 87 (4 * q + k) ∧ s.E (H 26 (H 86 (G 2 q))) k = t.I 88 (4 * q + k) ∧ RSe (s.E (G 8 (4 * q + k))) (fun i => t.I 86 (16 * (4 * q + k) + i)) (t.I 85 (4 * q + k)).toNatClampNeg) ∧ (∀ k, k < 4 → s.Q (H 27 (H 86 (G 2 q))) k = some (G 8 (4 * q + k)) ∧ s.K (G 8 (4 * q + k)) = (126, 16)) ∧ (t.I 79 q = 1 → RSe (s.E (H 21 (H 86 (G 2 q)))) (fun i => t.I 81 (16 * q + i)) (t.I 80 q).toNatClampNeg) ∧ (s.P 28 (H 86 (G 2 q)) = none ∨ ∃ w, s.P 28 (H 86 (G 2 q)) = some w ∧ s.K w = (127, 792))
/-- the sources that an interface has heard with keys, as the model has them -/
def msL (t : moS) (q : Nat) : List Nat := (List.range (t.S 101).toNatClampNeg).filter (fun i => t.I 102 i = nI q)
def RSo (G : Nat → Nat → Nat) (s : cS) (t : moS) (q : Nat) : Prop := s.I 98 (G 2 q) = nI (msL t q).length ∧ ∃ w1 w2 cap, s.P 96 (G 2 q) = some w1 ∧ s.P 97 (G 2 q) = some w2 ∧ s.K w1 = (115, cap) ∧ s.K w2 = (120, cap) ∧ (msL t q).length ≤ cap ∧ 4 ≤ cap ∧ cap ≤ 8192 ∧ ∀ i, i < (msL t q).length → s.E w1 i = (ush (t.J 103 ((msL t q).getD i 0)) 32).toInt32 ∧ s.E w2 i = (t.J 104 ((msL t q).getD i 0)).toInt32
/-- an interface -/
def RPo (G H : Nat → Nat → Nat) (s : cS) (t : moS) (r p : Nat) : Prop := ((s.K (G 2 (4 * r + p))).1 = 8 ∧ s.Q (H 184 (G 1 r)) p = some (G 2 (4 * r + p)) ∧ H 80 (G 2 (4 * r + p)) = G 0 (t.I 71 (4 * r + p)).toNatClampNeg) ∧ RAd G s t (4 * r + p) 0 ∧ RAd G s t (4 * r + p) 1 ∧ (s.I 83 (G 2 (4 * r + p)) = t.I 72 (4 * r + p) ∧ spl (s.I 84 (G 2 (4 * r + p))) (t.J 73 (4 * r + p)) ∧ s.I 85 (G 2 (4 * r + p)) = t.I 74 (4 * r + p) ∧ s.I 88 (G 2 (4 * r + p)) = t.I 90 (4 * r + p) ∧ s.I 92 (G 2 (4 * r + p)) = t.I 95 (4 * r + p) ∧ s.I 93 (G 2 (4 * r + p)) = t.I 99 (4 * r + p) ∧ s.I 94 (G 2 (4 * r + p)) = t.I 100 (4 * r + p) ∧ s.I 95 (G 2 (4 * r + p)) = t.I 89 (4 * r + p)) ∧ (∀ k, k < (t.I 90 (4 * r + p)).toNatClampNeg → ∃ a, s.Q (H 87 (G 2 (4 * r + p))) k = some a ∧ (s.K a).1 = 15 ∧ PF s a (fam (t.I 91 (4 * (4 * r + p) + k))) (t.J 92 (4 * (4 * r + p) + k)) (t.J 93 (4 * (4 * r + p) + k)) (t.I 94 (4 * (4 * r + p) + k))) ∧ (∀ k, k < (t.I 95 (4 * r + p)).toNatClampNeg → ∃ a n, s.Q (H 91 (G 2 (4 * r + p))) k = some a ∧ (s.K a).1 = 16 ∧ PF s a (fam (t.I 96 (4 * (4 * r + p) + k))) (t.J 97 (4 * (4 * r + p) + k)) (t.J 98 (4 * (4 * r + p) + k)) n) ∧ RCh G H s t (4 * r + p) ∧ RSo G s t (4 * r + p)
/-- entries of a list, or filters -/
def RPl (H : Nat → Nat → Nat) (s : cS) (a n : Nat) (f : Nat → Int32) (h l : Nat → Int64) (g per le mo : Nat → Int32) : Prop := s.I 125 a = nI n ∧ ∀ k, k < n → ∃ p, s.Q (H 121 a) k = some p ∧ (s.K p).1 = 17 ∧ PF s p (fam (f k)) (h k) (l k) (g k) ∧ s.E (H 122 a) k = per k ∧ s.E (H 123 a) k = le k ∧ s.E (H 124 a) k = mo k
def RLs (G H : Nat → Nat → Nat) (sa : Nat → Nat) (x : Nat) (s : cS) (t : moS) (i : Nat) : Prop := ((s.K (G 3 i)).1 = 20 ∧ s.Q (H 230 x) i = some (G 3 i)) ∧ (∃ nm, s.P 120 (G 3 i) = some (H 120 (G 3 i)) ∧ isTx sa s (H 120 (G 3 i)) nm ∧ nmL nm (t.J 28 i)) ∧ RPl H s (G 3 i) (t.I 29 i).toNatClampNeg (fun k => t.I 31 (16 * i + k)) (fun k => t.J 32 (16 * i + k)) (fun k => t.J 33 (16 * i + k)) (fun k => t.I 34 (16 * i + k)) (fun k => t.I 30 (16 * i + k)) (fun k => t.I 35 (16 * i + k)) (fun k => t.I 36 (16 * i + k))
def RFi (G H : Nat → Nat → Nat) (s : cS) (t : moS) (r w : Nat) : Prop := ((s.K (G 5 (2 * r + w))).1 = 21 ∧ s.Q (H 188 (G 1 r)) w = some (G 5 (2 * r + w))) ∧ RPl H s (G 5 (2 * r + w)) (t.I 53 (2 * r + w)).toNatClampNeg (fun k => t.I 54 (64 * r + 32 * w + k)) (fun k => t.J 55 (64 * r + 32 * w + k)) (fun k => t.J 56 (64 * r + 32 * w + k)) (fun k => t.I 57 (64 * r + 32 * w + k)) (fun k => t.I 58 (64 * r + 32 * w + k)) (fun k => t.I 57 (64 * r + 32 * w + k)) (fun _ => -1)
def shc (m : Int32) : Int32 := if m = -1 then 0 else if m = 0 then -1 else m
/-- distributes, offsets, redistributes -/
def RPy (G H : Nat → Nat → Nat) (s : cS) (t : moS) (r : Nat) : Prop := (s.I 190 (G 1 r) = t.I 59 r ∧ s.I 192 (G 1 r) = t.I 63 r) ∧ (∀ k, k < 8 → s.Q (H 189 (G 1 r)) k = some (G 9 (8 * r + k)) ∧ s.K (G 9 (8 * r + k)) = (100, 4) ∧ s.Q (H 191 (G 1 r)) k = some (G 10 (8 * r + k)) ∧ s.K (G 10 (8 * r + k)) = (128, 4)) ∧ (∀ k, k < (t.I 59 r).toNatClampNeg → s.E (G 9 (8 * r + k)) 0 = t.I 60 (8 * r + k) ∧ s.E (G 9 (8 * r + k)) 1 = t.I 61 (8 * r + k) ∧ s.E (G 9 (8 * r + k)) 2 = t.I 62 (8 * r + k) ∧ s.E (G 9 (8 * r + k)) 3 = 0) ∧ (∀ k, k < (t.I 63 r).toNatClampNeg → s.E (G 10 (8 * r + k)) 0 = t.I 64 (8 * r + k) ∧ s.E (G 10 (8 * r + k)) 1 = t.I 65 (8 * r + k) ∧ s.E (G 10 (8 * r + k)) 2 = t.I 66 (8 * r + k) ∧ s.E (G 10 (8 * r + k)) 3 = t.I 67 (8 * r + k)) ∧ ∀ k, k < 2 → s.E (H 193 (G 1 r)) k = shc (t.I 68 (2 * r + k)) ∧ s.E (H 194 (G 1 r)) k = t.I 69 (2 * r + k)
/-- a datagram on its way, at the model's place p -/
def RDg (G H : Nat → Nat → Nat) (s : cS) (t : moS) (a p : Nat) : Prop := BL s (H 40 a) 129 (tl (fun j => t.I 138 (700 * p + j)) (t.I 137 p).toNatClampNeg) 600 ∧ PF s (H 41 a) (fam (t.I 131 p)) (t.J 132 p) (t.J 133 p) (if t.I 131 p = 0 then 32 else 128) ∧ (s.I 43 a = t.I 128 p ∧ s.I 44 a = fam (t.I 131 p) ∧ s.I 45 a = t.I 134 p ∧ s.I 46 a = t.I 135 p ∧ s.I 49 a = t.I 136 p) ∧ (t.I 128 p = 0 → s.I 100 (H 42 a) = fam (t.I 131 p) ∧ s.J 101 (H 42 a) = t.J 129 p ∧ s.J 102 (H 42 a) = t.J 130 p) ∧ s.P 47 a = (if t.I 127 p = -1 then none else some (G 1 ((t.I 127 p).toNatClampNeg / 4))) ∧ s.P 48 a = some (G 0 (t.I 126 p).toNatClampNeg)
/-- what flies, what is spare, what is written -/
def RFl (G H : Nat → Nat → Nat) (x : Nat) (s : cS) (t : moS) : Prop := (s.I 233 x = t.S 123 ∧ s.I 235 x = nI (G 12 999) ∧ cF t + G 12 999 + 1 ≤ 258) ∧ (∀ i, i < cF t → s.Q (H 232 x) i = some (G 11 i) ∧ (s.K (G 11 i)).1 = 6 ∧ RDg G H s t (G 11 i) (t.I 124 i).toNatClampNeg) ∧ (∀ i, i < G 12 999 → s.Q (H 234 x) i = some (G 12 i) ∧ (s.K (G 12 i)).1 = 6) ∧ (s.P 236 x = some (G 11 999) ∧ (s.K (G 11 999)).1 = 6) ∧ (∀ i j, i < cF t → j < cF t → G 11 i = G 11 j → i = j) ∧ (∀ i j, i < G 12 999 → j < G 12 999 → G 12 i = G 12 j → i = j) ∧ (∀ i j, i < cF t → j < G 12 999 → G 11 i ≠ G 12 j) ∧ (∀ i, i < cF t → G 11 i ≠ G 11 999) ∧ (∀ i, i < G 12 999 → G 12 i ≠ G 11 999)
/-- texts: the tape, the text, the page -/
def RTx (H : Nat → Nat → Nat) (x : Nat) (s : cS) (t : moS) : Prop := (∃ cap, cap ≤ 8192 ∧ BL s (H 220 x) 101 (tl (t.I 2) (t.S 3).toNatClampNeg) cap) ∧ ∃ tx pg c1 c2, s.P 221 x = some tx ∧ s.P 222 x = some pg ∧ (s.K tx).1 = 32 ∧ (s.K pg).1 = 32 ∧ tx ≠ pg ∧ c1 ≤ 262144 ∧ c2 ≤ 262144 ∧ BL s tx 124 (tl (t.I 5) (t.S 6).toNatClampNeg) c1 ∧ ∃ l, BL s pg 124 l c2
/-- what stands in no relation to the model -/
def RGl (G H : Nat → Nat → Nat) (sa : Nat → Nat) (x : Nat) (s : cS) : Prop := (s.K x).1 = 30 ∧ TY cNo H s ∧ TK sa s ∧ (∀ a, (s.K a).1 = 6 → ∃ l, BL s (H 40 a) 129 l 600) ∧ (∃ n, RTa s (H 237 x) 144 25 n (G 15 0) 2800 (fun j => G 16 j)) ∧ (s.P 223 x = none ∨ ∃ d, s.P 223 x = some d ∧ (s.K d).1 = 22) ∧ (∀ a b d, (s.K a).1 = 8 → (s.K b).1 = 8 → s.P 96 a = some d → s.P 96 b = some d → a = b) ∧ (∀ a b d, (s.K a).1 = 8 → (s.K b).1 = 8 → s.P 97 a = some d → s.P 97 b = some d → a = b) ∧ (∀ a b d, okO s 10 a → okO s 10 b → s.P 200 a = some d → s.P 200 b = some d → a = b) ∧ (∀ a d, okO s 1 a → s.P 28 a = some d → s.K d = (127, 792)) ∧ (∀ a b d, okO s 1 a → okO s 1 b → s.P 28 a = some d → s.P 28 b = some d → a = b) ∧ (∀ a, okO s 0 a → ∃ d, s.P 0 a = some d ∧ 100 ≤ (s.K d).1 ∧ (s.K d).1 < 130) ∧ (∀ a, okO s 1 a → ∀ k, k < 4 → ∃ w, s.Q (H 27 a) k = some w ∧ s.K w = (126, 16)) ∧ (∀ a b k k' w, okO s 1 a → okO s 1 b → k < 4 → k' < 4 → s.Q (H 27 a) k = some w → s.Q (H 27 b) k' = some w → a = b ∧ k = k') ∧ (∀ a i, (s.K a).1 = 103 → i < 16 → fits .byte (.int (s.E a i)) = true) ∧ (∀ a, (s.K a).1 = 8 → ∃ d e, s.P 96 a = some d ∧ s.P 97 a = some e ∧ (s.K d).1 = 115 ∧ (s.K e).1 = 120) ∧ ∀ a, okO s 10 a → ∃ d, s.P 200 a = some d ∧ (s.K d).1 ≠ 0
/-- addresses that are apart -/
def RIn (G : Nat → Nat → Nat) (t : moS) : Prop := (∀ i j, i < cL t → j < cL t → G 0 i = G 0 j → i = j) ∧ (∀ i j, i < cR t → j < cR t → G 1 i = G 1 j → i = j) ∧ (∀ r r' p p', r < cR t → r' < cR t → p < cI t r → p' < cI t r' → G 2 (4 * r + p) = G 2 (4 * r' + p') → 4 * r + p = 4 * r' + p') ∧ (∀ i j, i < cS' t → j < cS' t → G 3 i = G 3 j → i = j) ∧ (∀ r r' j j', r < cR t → r' < cR t → j < G 13 r → j' < G 13 r' → G 4 (2700 * r + j) = G 4 (2700 * r' + j') → 2700 * r + j = 2700 * r' + j') ∧ (∀ i j, i < 2 * cR t → j < 2 * cR t → G 5 i = G 5 j → i = j) ∧ (∀ r r' j j', r < cR t → r' < cR t → j < G 14 r → j' < G 14 r' → G 6 (32 * r + j) = G 6 (32 * r' + j') → 32 * r + j = 32 * r' + j') ∧ (∀ r p k r' p' k', r < cR t → r' < cR t → p < cI t r → p' < cI t r' → k < 4 → k' < 4 → G 8 (4 * (4 * r + p) + k) = G 8 (4 * (4 * r' + p') + k') → 4 * (4 * r + p) + k = 4 * (4 * r' + p') + k') ∧ (∀ i j, i < 8 * cR t → j < 8 * cR t → G 9 i = G 9 j → i = j) ∧ (∀ i j, i < 8 * cR t → j < 8 * cR t → G 10 i = G 10 j → i = j) ∧ ∀ r j, r < cR t → j < (t.I 46 r).toNatClampNeg → ∀ j', j' < (t.I 46 r).toNatClampNeg → G 7 (32 * r + j) = G 7 (32 * r + j') → j = j'
/-- class and model side by side -/
def RR (G H : Nat → Nat → Nat) (sa : Nat → Nat) (x : Nat) (s : cS) (t : moS) : Prop := RGl G H sa x s ∧ RIn G t ∧ (s.I 224 x = t.S 4 ∧ s.I 225 x = t.S 1 ∧ s.I 227 x = t.S 17 ∧ s.I 229 x = t.S 37 ∧ s.I 231 x = t.S 27) ∧ RTx H x s t ∧ (∀ i, i < cL t → RLk G H sa x s t i) ∧ (∀ i, i < cS' t → RLs G H sa x s t i) ∧ (∀ r, r < cR t → RRt G H sa x s t r ∧ RTb G H s t r ∧ RSt G H s t r ∧ RFi G H s t r 0 ∧ RFi G H s t r 1 ∧ RPy G H s t r ∧ ∀ p, p < cI t r → RPo G H s t r p) ∧ RFl G H x s t
