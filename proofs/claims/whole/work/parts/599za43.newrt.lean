/-! A route that was not there is learned: class and model. -/
theorem cS_x {s s' : cS} (h1 : s'.K = s.K) (h2 : ∀ g b, s'.I g b = s.I g b) (h3 : ∀ g b, s'.J g b = s.J g b) (h4 : ∀ g b, s'.P g b = s.P g b) (h5 : s'.E = s.E) (h6 : s'.Q = s.Q) : s' = s := by
  refine Prod.ext h1 (Prod.ext (funext fun g => funext (h2 g)) (Prod.ext (funext fun g => funext (h3 g)) (Prod.ext (funext fun g => funext (h4 g)) (Prod.ext h5 h6))))
theorem moS_x {t t' : moS} (h1 : t'.S = t.S) (h2 : t'.Z = t.Z) (h3 : ∀ g i, t'.I g i = t.I g i) (h4 : ∀ g i, t'.J g i = t.J g i) (h5 : t'.N = t.N) : t' = t := Prod.ext h1 (Prod.ext h2 (Prod.ext (funext fun g => funext (h3 g)) (Prod.ext (funext fun g => funext (h4 g)) h5)))
section Nw
variable {G H : Nat → Nat → Nat} {sa : Nat → Nat} {x r a k p1 p2 p0 : Nat} {s : cS} {t t2 : moS} {F gn hn tag metric tm to ga q : Int32} {gh gl h l : Int64} {port : Option Nat}
/-- what the row was before does not matter -/
theorem to_bo (h163 : s.I 163 a = 2) (n1 : p1 ≠ a) : toS (cSI (boS s a p0 p1 1 1 0 none) 163 a 2) r a p1 p2 F gh gl gn h l hn port tag metric tm to ga = toS s r a p1 p2 F gh gl gn h l hn port tag metric tm to ga := by
  obtain ⟨a1, a2, a3, a4, a5⟩ := toK (s := cSI (boS s a p0 p1 1 1 0 none) 163 a 2) (rr := r) (a := a) (p1 := p1) (p2 := p2) (F := F) (gh := gh) (gl := gl) (gn := gn) (h := h) (l := l) (hn := hn) (port := port) (tag := tag) (metric := metric) (tm := tm) (to := to) (ga := ga)
  obtain ⟨b1, b2, b3, b4, b5⟩ := toK (s := s) (rr := r) (a := a) (p1 := p1) (p2 := p2) (F := F) (gh := gh) (gl := gl) (gn := gn) (h := h) (l := l) (hn := hn) (port := port) (tag := tag) (metric := metric) (tm := tm) (to := to) (ga := ga)
  refine cS_x (by rw [a1, b1]; rfl) (fun g b => ?_) (fun g b => ?_) (fun g b => ?_) (by rw [a3, b3]; rfl) (by rw [a2, b2]; rfl)
  · have e9 : (cSI (boS s a p0 p1 1 1 0 none) 163 a 2).I 199 r = s.I 199 r := by
      rw [evI, if_neg (by omega), boI, if_neg (by omega), if_neg (by omega), if_neg (by omega), if_neg (by omega), if_neg (by omega)]
    rw [toI, toI, e9]
    by_cases c1 : g = 199 ∧ b = r
    · rw [if_pos c1, if_pos c1]
    rw [if_neg c1, if_neg c1]
    by_cases c2 : g = 170 ∧ b = a
    · rw [if_pos c2, if_pos c2]
    rw [if_neg c2, if_neg c2]
    by_cases c3 : metric ≠ 16 ∧ g = 169 ∧ b = a
    · rw [if_pos c3, if_pos c3]
    rw [if_neg c3, if_neg c3]
    by_cases c4 : metric ≠ 16 ∧ g = 168 ∧ b = a
    · rw [if_pos c4, if_pos c4]
    rw [if_neg c4, if_neg c4]
    by_cases c5 : g = 165 ∧ b = a
    · rw [if_pos c5, if_pos c5]
    rw [if_neg c5, if_neg c5]
    by_cases c6 : g = 103 ∧ b = p2
    · rw [if_pos c6, if_pos c6]
    rw [if_neg c6, if_neg c6]
    by_cases c7 : g = 100 ∧ b = p2
    · rw [if_pos c7, if_pos c7]
    rw [if_neg c7, if_neg c7]
    by_cases c8 : g = 103 ∧ b = p1
    · rw [if_pos c8, if_pos c8]
    rw [if_neg c8, if_neg c8]
    by_cases c9 : g = 100 ∧ b = p1
    · rw [if_pos c9, if_pos c9]
    rw [if_neg c9, if_neg c9]
    by_cases c10 : g = 164 ∧ b = a
    · rw [if_pos c10, if_pos c10]
    rw [if_neg c10, if_neg c10, evI]
    by_cases c11 : g = 163 ∧ b = a
    · rw [if_pos c11, c11.1, c11.2, h163]
    · rw [if_neg c11, boI, if_neg c8, if_neg c9, if_neg c5, if_neg c10, if_neg c11]
  · rw [a5, b5]
    by_cases c1 : g = 102 ∧ b = p2
    · rw [if_pos c1, if_pos c1]
    rw [if_neg c1, if_neg c1]
    by_cases c2 : g = 101 ∧ b = p2
    · rw [if_pos c2, if_pos c2]
    rw [if_neg c2, if_neg c2]
    by_cases c3 : g = 102 ∧ b = p1
    · rw [if_pos c3, if_pos c3]
    rw [if_neg c3, if_neg c3]
    by_cases c4 : g = 101 ∧ b = p1
    · rw [if_pos c4, if_pos c4]
    rw [if_neg c4, if_neg c4]
    show (boS s a p0 p1 1 1 0 none).J g b = _
    rw [boJ, if_neg c3, if_neg c4]
  · rw [a4, b4]
    by_cases c1 : g = 166 ∧ b = a
    · rw [if_pos c1, if_pos c1]
    rw [if_neg c1, if_neg c1]
    show (boS s a p0 p1 1 1 0 none).P g b = _
    rw [boP, if_neg c1]
theorem to_set : toM (moSI (setM t2 k 1 1 (-1) 0) 110 k 2) r k q metric tag h l = toM (moSI (moSI (moSI t2 110 k 2) 111 k 99) 113 k (-1)) r k q metric tag h l := by
  have eI : ∀ g i, (moSI (setM t2 k 1 1 (-1) 0) 110 k 2).I g i = if i = k then (if g = 110 then 2 else if g = 112 then 0 else if g = 113 then -1 else if g = 111 then 1 else t2.I g i) else t2.I g i := fun g i => by
    unfold setM
    simp only [evMI]
    by_cases c : i = k
    · simp only [c, and_true, if_true]
      by_cases c1 : g = 110
      · simp only [c1, if_true]
      · simp only [c1, if_false]
    · simp only [c, and_false, if_false]
  have eJ : ∀ g i, (moSI (moSI (moSI t2 110 k 2) 111 k 99) 113 k (-1)).I g i = if i = k then (if g = 113 then -1 else if g = 111 then 99 else if g = 110 then 2 else t2.I g i) else t2.I g i := fun g i => by
    simp only [evMI]
    by_cases c : i = k
    · simp only [c, and_true, if_true]
    · simp only [c, and_false, if_false]
  have x1 : ∀ g, g ≠ 110 → g ≠ 111 → g ≠ 112 → g ≠ 113 → ∀ i, (moSI (setM t2 k 1 1 (-1) 0) 110 k 2).I g i = (moSI (moSI (moSI t2 110 k 2) 111 k 99) 113 k (-1)).I g i := fun g h0 h1 h2 h3 i => by
    rw [eI, eJ]
    by_cases c : i = k
    · rw [if_pos c, if_pos c, if_neg h0, if_neg h2, if_neg h3, if_neg h1, if_neg h3, if_neg h1, if_neg h0]
    · rw [if_neg c, if_neg c]
  refine moS_x rfl rfl (fun g i => ?_) (fun g i => by rw [toM_J, toM_J]; rfl) rfl
  rw [toM_I, toM_I, x1 41 (by decide) (by decide) (by decide) (by decide), x1 42 (by decide) (by decide) (by decide) (by decide)]
  by_cases c : i = k
  rotate_left
  · rw [if_neg c, if_neg c, eI, eJ, if_neg c, if_neg c]
  rw [if_pos c, if_pos c]
  by_cases c1 : g = 121
  · rw [if_pos c1, if_pos c1]
  rw [if_neg c1, if_neg c1]
  by_cases c2 : g = 120
  · rw [if_pos c2, if_pos c2]; rfl
  rw [if_neg c2, if_neg c2]
  by_cases c3 : g = 122
  · rw [if_pos c3, if_pos c3]; rfl
  rw [if_neg c3, if_neg c3]
  by_cases c4 : g = 116
  · rw [if_pos c4, if_pos c4]
  rw [if_neg c4, if_neg c4]
  by_cases c5 : g = 112
  · rw [if_pos c5, if_pos c5]
  rw [if_neg c5, if_neg c5]
  by_cases c6 : g = 113
  · rw [if_pos c6, if_pos c6]
  rw [if_neg c6, if_neg c6]
  by_cases c7 : g = 111
  · rw [if_pos c7, if_pos c7]
  rw [if_neg c7, if_neg c7, eI, eJ, if_pos c, if_pos c, if_neg c5, if_neg c6, if_neg c7, if_neg c6, if_neg c7]
end Nw
