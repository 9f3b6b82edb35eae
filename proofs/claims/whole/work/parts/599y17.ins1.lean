/-! A route that is new in a table, its router's own: the parts of the relation. -/
def setM (t : moS) (k : Nat) (dk dm di dt : Int32) : moS := moSI (moSI (moSI (moSI t 110 k dk) 111 k dm) 113 k di) 112 k dt
/-- the books with row a put in at i -/
def insG (G : Nat → Nat → Nat) (r i n a hw : Nat) : Nat → Nat → Nat := fun b y => if b = 4 ∧ 2700 * r ≤ y ∧ y < 2700 * r + 2700 then (if y < 2700 * r + i then G 4 y else if y = 2700 * r + i then a else if y ≤ 2700 * r + n then G 4 (y - 1) else G 4 y) else if b = 13 ∧ y = r then hw else G b y
section In
variable {G H : Nat → Nat → Nat} {sa : Nat → Nat} {x r w a k i n hw hw' b g p cap : Nat} {s sF : cS} {t t2 : moS} {f n' dk dm di dt tag metric : Int32} {h l : Int64}
theorem insG_o (h4 : b ≠ 4) (h13 : b ≠ 13) : insG G r i n a hw' b = G b := funext fun y => by
  unfold insG
  rw [if_neg (fun z => h4 z.1), if_neg (fun z => h13 z.1)]
theorem insG_13 : insG G r i n a hw' 13 = fun y => if y = r then hw' else G 13 y := funext fun y => by
  unfold insG
  rw [if_neg (fun z => absurd z.1 (by decide))]
  by_cases c : y = r
  · rw [if_pos ⟨rfl, c⟩, if_pos c]
  · rw [if_neg (fun z => c z.2), if_neg c]
theorem insG_4 {j : Nat} (hj : j < 2700) : insG G r i n a hw' 4 (2700 * r + j) = if j < i then G 4 (2700 * r + j) else if j = i then a else if j ≤ n then G 4 (2700 * r + (j - 1)) else G 4 (2700 * r + j) := by
  unfold insG
  rw [if_pos ⟨rfl, by omega, by omega⟩]
  by_cases c1 : j < i
  · rw [if_pos (by omega), if_pos c1]
  · rw [if_neg (by omega), if_neg c1]
    by_cases c2 : j = i
    · rw [if_pos (by omega), if_pos c2]
    · rw [if_neg (by omega), if_neg c2]
      by_cases c3 : j ≤ n
      · rw [if_pos (by omega), if_pos c3, show 2700 * r + j - 1 = 2700 * r + (j - 1) by omega]
      · rw [if_neg (by omega), if_neg c3]
theorem insG_4o {r' j : Nat} (hne : r' ≠ r) (hj : j < 2700) : insG G r i n a hw' 4 (2700 * r' + j) = G 4 (2700 * r' + j) := by
  unfold insG
  rw [if_neg (fun z => by omega), if_neg (fun z => absurd z.1 (by decide))]
/-- where a row of the new table comes from -/
theorem ins_src {q : Nat → Option Nat} (hi : i ≤ n) (hc : n < hw ∧ hw' = hw ∨ n = hw ∧ hw' = hw + 1) (h27 : hw' ≤ 2700) {j : Nat} (hj : j < hw') : (j = i ∧ insG G r i n a hw' 4 (2700 * r + j) = a ∧ inF q i n a j = some a) ∨ ∃ y, y < hw ∧ y ≠ n ∧ insG G r i n a hw' 4 (2700 * r + j) = G 4 (2700 * r + y) ∧ j = (if y < i then y else if y < n then y + 1 else y) ∧ inF q i n a j = q y := by
  rw [insG_4 (by omega)]
  unfold inF
  by_cases z1 : j < i
  · rw [if_pos z1, if_pos z1]
    exact Or.inr ⟨j, by omega, by omega, rfl, by rw [if_pos z1], rfl⟩
  · rw [if_neg z1, if_neg z1]
    by_cases z2 : j = i
    · rw [if_pos z2, if_pos z2]
      exact Or.inl ⟨z2, rfl, rfl⟩
    · rw [if_neg z2, if_neg z2]
      by_cases z3 : j ≤ n
      · rw [if_pos z3, if_pos z3]
        exact Or.inr ⟨j - 1, by omega, by omega, rfl, by rw [if_neg (by omega), if_pos (by omega)]; omega, rfl⟩
      · rw [if_neg z3, if_neg z3]
        exact Or.inr ⟨j, by omega, by omega, rfl, by rw [if_neg z1, if_neg (by omega)], rfl⟩
theorem ins_ta {tb : Nat} (hT : RTa s tb 135 23 n hw 2700 (fun j => G 4 (2700 * r + j))) (hP : s.P 200 tb = some w) (hK : s.K w = (135, cap)) (hnc : n < cap) (hi : i ≤ n) (hc : n < hw ∧ hw' = hw ∨ n = hw ∧ hw' = hw + 1) (h27 : n < 2700) (ka : (s.K a).1 = 23) (nota : ∀ y, y < hw → y ≠ n → G 4 (2700 * r + y) ≠ a) (k1 : sF.K = s.K) (k2 : sF.P 200 tb = s.P 200 tb) (k3 : sF.I 201 tb = nI (n + 1)) (k4 : sF.Q w = inF (s.Q w) i n a) : RTa sF tb 135 23 (n + 1) hw' 2700 (fun j => insG G r i n a hw' 4 (2700 * r + j)) := by
  obtain ⟨c1, c2, c3, w0, cap0, d1, d2, d3, d4, d5, d6, d7, d8⟩ := hT
  rw [hP] at d1
  cases d1
  rw [hK] at d2
  cases d2
  have hb : n + 1 ≤ hw' ∧ hw' ≤ 2700 ∧ hw' ≤ cap ∧ hw ≤ hw' := by omega
  have src := fun j (hj : j < hw') => ins_src (G := G) (r := r) (a := a) (q := s.Q w) hi hc hb.2.1 hj
  refine ⟨k3, hb.1, hb.2.1, w, cap, by rw [k2]; exact hP, by rw [k1]; exact hK, hb.2.2.1, d4, d5, fun j hj => ?_, fun j hj => ?_, fun y1 y2 hy1 hy2 z => ?_⟩
  · show sF.Q w j = some (insG G r i n a hw' 4 (2700 * r + j)) ∧ (sF.K (insG G r i n a hw' 4 (2700 * r + j))).1 = 23
    rw [k4, k1]
    rcases src j hj with ⟨-, z2, z3⟩ | ⟨y, z1, z2, z3, z4, z5⟩
    · rw [z2, z3]
      exact ⟨rfl, ka⟩
    · rw [z3, z5]
      exact d6 y z1
  · rw [k4]
    unfold inF
    rw [if_neg (by omega), if_neg (by omega), if_neg (by omega)]
    exact d7 j (by omega)
  · have z : insG G r i n a hw' 4 (2700 * r + y1) = insG G r i n a hw' 4 (2700 * r + y2) := z
    rcases src y1 hy1 with ⟨z1, z2, -⟩ | ⟨u1, z1, z2, z3, z4, z5⟩ <;> rcases src y2 hy2 with ⟨x1, x2, -⟩ | ⟨u2, x1, x2, x3, x4, x5⟩
    · rw [z1, x1]
    · rw [z2, x3] at z
      exact absurd z.symm (nota u2 x1 x2)
    · rw [x2, z3] at z
      exact absurd z (nota u1 z1 z2)
    · rw [z3, x3] at z
      have := d8 u1 u2 z1 x1 z
      rw [z4, x4, this]
theorem setM_I {y : Nat} : (setM t k dk dm di dt).I g y = if y = k then (if g = 112 then dt else if g = 113 then di else if g = 111 then dm else if g = 110 then dk else t.I g y) else t.I g y := by
  unfold setM
  simp only [evMI]
  by_cases c : y = k
  · simp only [c, and_true, if_true]
  · simp only [c, and_false, if_false]
/-- the class behind it -/
abbrev inC (s : cS) (H : Nat → Nat → Nat) (tb w i n a p : Nat) (dk dm dt : Int32) (port : Option Nat) : cS := boS (bgS (cSI (cQs s w (inF (s.Q w) i n a)) 201 tb (nI (n + 1))) a p (H 160 a) (H 161 a) (H 162 a) 0 16) a (H 160 a) (H 161 a) dk dm dt port
theorem ins_cls {port : Option Nat} (hT : TY cNo H s) (k1 : (s.K (G 1 r)).1 = 26) (ka : (s.K a).1 = 23) (hp : PF s p (fam f) h l n') (hpr : p ≠ H 186 (G 1 r)) : rwC G H r a w s (inC s H (H 186 (G 1 r)) w i n a p dk dm dt port) ∧ (inC s H (H 186 (G 1 r)) w i n a p dk dm dt port).I 201 (H 186 (G 1 r)) = nI (n + 1) ∧ PF (inC s H (H 186 (G 1 r)) w i n a p dk dm dt port) (H 160 a) (fam f) h l n' ∧ ((inC s H (H 186 (G 1 r)) w i n a p dk dm dt port).I 100 (H 161 a) = fam f ∧ (inC s H (H 186 (G 1 r)) w i n a p dk dm dt port).J 101 (H 161 a) = 0 ∧ (inC s H (H 186 (G 1 r)) w i n a p dk dm dt port).J 102 (H 161 a) = 0) ∧ ((inC s H (H 186 (G 1 r)) w i n a p dk dm dt port).I 163 a = dk ∧ (inC s H (H 186 (G 1 r)) w i n a p dk dm dt port).I 164 a = dm ∧ (inC s H (H 186 (G 1 r)) w i n a p dk dm dt port).I 165 a = dt ∧ (inC s H (H 186 (G 1 r)) w i n a p dk dm dt port).I 167 a = 0 ∧ (inC s H (H 186 (G 1 r)) w i n a p dk dm dt port).P 166 a = port) ∧ (∀ g, (inC s H (H 186 (G 1 r)) w i n a p dk dm dt port).I g (G 1 r) = s.I g (G 1 r)) ∧ (inC s H (H 186 (G 1 r)) w i n a p dk dm dt port).E = s.E ∧ (inC s H (H 186 (G 1 r)) w i n a p dk dm dt port).Q w = inF (s.Q w) i n a := by
  have k9 := (hT.p ka 160 9).2
  have k10 := (hT.p ka 161 10).2
  have k11 := (hT.p ka 162 11).2
  have ktb := (hT.p k1 186 27).2
  have e1 : H 160 a ≠ a := ne_ro k9 ka
  have e2 : H 161 a ≠ a := ne_ro k10 ka
  have e12 : H 160 a ≠ H 161 a := ne_ro k9 k10
  have e13 : H 160 a ≠ H 162 a := ne_ro k9 k11
  have e23 : H 161 a ≠ H 162 a := ne_ro k10 k11
  have ra : G 1 r ≠ a := ne_ro k1 ka
  have r9 : G 1 r ≠ H 160 a := ne_ro k1 k9
  have r10 : G 1 r ≠ H 161 a := ne_ro k1 k10
  have r11 : G 1 r ≠ H 162 a := ne_ro k1 k11
  have rt : G 1 r ≠ H 186 (G 1 r) := ne_ro k1 ktb
  obtain ⟨p1, p2, p3, p4⟩ := hp
  have inI : ∀ g b, (cSI (cQs s w (inF (s.Q w) i n a)) 201 (H 186 (G 1 r)) (nI (n + 1))).I g b = if g = 201 ∧ b = H 186 (G 1 r) then nI (n + 1) else s.I g b := fun g b => evI
  have inJ : ∀ g b, (cSI (cQs s w (inF (s.Q w) i n a)) 201 (H 186 (G 1 r)) (nI (n + 1))).J g b = s.J g b := fun g b => rfl
  have inQ : (cSI (cQs s w (inF (s.Q w) i n a)) 201 (H 186 (G 1 r)) (nI (n + 1))).Q w = inF (s.Q w) i n a := cQs_s
  have inE : (cSI (cQs s w (inF (s.Q w) i n a)) 201 (H 186 (G 1 r)) (nI (n + 1))).E = s.E := rfl
  have c0 : rwC G H r a w s (cSI (cQs s w (inF (s.Q w) i n a)) 201 (H 186 (G 1 r)) (nI (n + 1))) := rwC.q.tr (rwC.i (Or.inl rfl))
  unfold inC
  generalize cSI (cQs s w (inF (s.Q w) i n a)) 201 (H 186 (G 1 r)) (nI (n + 1)) = s1 at inI inJ inQ inE c0 ⊢
  refine ⟨(c0.tr rwC.bg).tr rwC.bo, ?_, ⟨?_, ?_, ?_, ?_⟩, ⟨?_, ?_, ?_⟩, ⟨?_, ?_, ?_, ?_, ?_⟩, fun g => ?_, inE, inQ⟩
  · simp only [boI, bgI, inI]; simp
  · simp only [boI, bgI, inI]; simp [e1, e12, e13, p1]
  · simp only [boJ, bgJ, inJ]; simp [e12, e13, p2]
  · simp only [boJ, bgJ, inJ]; simp [e12, e13, p3]
  · simp only [boI, bgI, inI]; simp [e1, e12, e13, p4]
  · simp only [boI, bgI, inI]; simp [e1, e12, e13, p1]
  · simp only [boJ]; simp
  · simp only [boJ]; simp
  · simp only [boI]; simp
  · simp only [boI]; simp
  · simp only [boI]; simp
  · simp only [boI, bgI]; simp
  · simp only [boP]; simp
  · simp only [boI, bgI, inI]; simp [ra, r9, r10, r11, rt]
/-- the model behind it -/
theorem ins_mod (hins : insM t t2 r i f h l n') (hn : n = cN t r) (h8 : n < 880) (hi : i ≤ n) : rwT r t (setM t2 (2700 * r + i) dk dm di dt) ∧ (setM t2 (2700 * r + i) dk dm di dt).I 105 r = nI (n + 1) ∧ (∀ j, (setM t2 (2700 * r + i) dk dm di dt).I 44 j = t.I 44 j) ∧ (∀ j, (setM t2 (2700 * r + i) dk dm di dt).I 45 j = t.I 45 j) ∧ (∀ g, g ∈ fRI → ∀ j, j ≠ i → j ≤ n → (setM t2 (2700 * r + i) dk dm di dt).I g (2700 * r + j) = t.I g (2700 * r + (if i < j then j - 1 else j))) ∧ (∀ g, g ∈ fRJ → ∀ j, j ≠ i → j ≤ n → (setM t2 (2700 * r + i) dk dm di dt).J g (2700 * r + j) = t.J g (2700 * r + (if i < j then j - 1 else j))) ∧ ((setM t2 (2700 * r + i) dk dm di dt).I 106 (2700 * r + i) = f ∧ (setM t2 (2700 * r + i) dk dm di dt).J 107 (2700 * r + i) = h ∧ (setM t2 (2700 * r + i) dk dm di dt).J 108 (2700 * r + i) = l ∧ (setM t2 (2700 * r + i) dk dm di dt).I 109 (2700 * r + i) = n') ∧ ((setM t2 (2700 * r + i) dk dm di dt).I 110 (2700 * r + i) = dk ∧ (setM t2 (2700 * r + i) dk dm di dt).I 111 (2700 * r + i) = dm ∧ (setM t2 (2700 * r + i) dk dm di dt).I 113 (2700 * r + i) = di ∧ (setM t2 (2700 * r + i) dk dm di dt).I 112 (2700 * r + i) = dt) ∧ (setM t2 (2700 * r + i) dk dm di dt).I 119 (2700 * r + i) = 0 ∧ (setM t2 (2700 * r + i) dk dm di dt).J 114 (2700 * r + i) = 0 ∧ (setM t2 (2700 * r + i) dk dm di dt).J 115 (2700 * r + i) = 0 ∧ (setM t2 (2700 * r + i) dk dm di dt).I 116 (2700 * r + i) = -1 := by
  obtain ⟨m1, m2, m3, m4, ⟨v1, v2, v3, v4⟩, v5, v6, v7, v8, v9, v10⟩ := hins
  have K1 : 2700 * r ≤ 2700 * r + i ∧ 2700 * r + i < 2700 * r + 2700 := by omega
  have ct2 : rwT r t t2 := by
    refine ⟨m1.wk (by decide), fun j _ => by rw [m1.I 44 (by decide)], fun j _ => by rw [m1.I 45 (by decide)], fun j hj => by rw [m2, if_neg hj], fun k hk j hj => ?_, fun k hk j hj => ?_⟩
    · rw [m3 k hk j (by omega), if_neg (by omega)]
    · rw [m4 k hk j (by omega), if_neg (by omega)]
  have ct : rwT r t (setM t2 (2700 * r + i) dk dm di dt) := (((ct2.tr (rwT.i (by decide) K1)).tr (rwT.i (by decide) K1)).tr (rwT.i (by decide) K1)).tr (rwT.i (by decide) K1)
  have sI : ∀ g y, (setM t2 (2700 * r + i) dk dm di dt).I g y = if y = 2700 * r + i then (if g = 112 then dt else if g = 113 then di else if g = 111 then dm else if g = 110 then dk else t2.I g y) else t2.I g y := fun g y => setM_I
  have sJ : (setM t2 (2700 * r + i) dk dm di dt).J = t2.J := rfl
  generalize setM t2 (2700 * r + i) dk dm di dt = t3 at ct sI sJ ⊢
  have vI : ∀ g, t3.I g (2700 * r + i) = (if g = 112 then dt else if g = 113 then di else if g = 111 then dm else if g = 110 then dk else t2.I g (2700 * r + i)) := fun g => by rw [sI, if_pos rfl]
  refine ⟨ct, ?_, fun j => ?_, fun j => ?_, fun g hg j h1 h2 => ?_, fun g hg j h1 h2 => ?_, ⟨(vI 106).trans v1, by rw [sJ]; exact v2, by rw [sJ]; exact v3, (vI 109).trans v4⟩, ⟨vI 110, vI 111, vI 113, vI 112⟩, (vI 119).trans v6, by rw [sJ]; exact v7, by rw [sJ]; exact v8, (vI 116).trans v9⟩
  · rw [sI]
    have : t2.I 105 r = nI (n + 1) := by rw [m2, if_pos rfl, hn]
    split <;> exact this
  · rw [sI, m1.I 44 (by decide)]
    split <;> rfl
  · rw [sI, m1.I 45 (by decide)]
    split <;> rfl
  · rw [sI, if_neg (by omega), m3 g hg _ (by omega)]
    by_cases z : i < j
    · rw [if_pos (by omega), if_pos z, show 2700 * r + j - 1 = 2700 * r + (j - 1) by omega]
    · rw [if_neg (by omega), if_neg z]
  · rw [sJ, m4 g hg _ (by omega)]
    by_cases z : i < j
    · rw [if_pos (by omega), if_pos z, show 2700 * r + j - 1 = 2700 * r + (j - 1) by omega]
    · rw [if_neg (by omega), if_neg z]
end In
