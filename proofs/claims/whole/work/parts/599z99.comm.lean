/-! What does not look at field 43 goes on in the same way behind a write of it. BY PROGRAM: prog/gen_cm.py. -/
section Cm
variable {α β γ δ : Type} {F : β → δ}
theorem ne_u {k ku : Nat} (hu : ku = 43) (h : k ≠ 43) : k ≠ ku := by rw [hu]; exact h
theorem ne_v {k ku : Nat} (hu : ku = 43 ∨ ku = 45) (h : k ≠ 43 ∧ k ≠ 45) : k ≠ ku := by
  rcases hu with rfl | rfl
  · exact h.1
  · exact h.2
theorem cm_r {o : Option α} : o = Option.map id o := by cases o <;> rfl
theorem cm_id {o o' : Option α} (h : o' = Option.map id o) : o' = o := by rw [h]; cases o <;> rfl
theorem cm_bT {o o' : Option α} {g : α → Option β} {g' : α → Option δ} (h : o' = o) (k : ∀ x, g' x = (g x).map F) : o'.bind g' = (o.bind g).map F := by
  rw [h]
  cases o with
  | none => rfl
  | some x => exact k x
theorem cm_bS {o : Option α} {o' : Option γ} {u : α → γ} {g : α → Option β} {g' : γ → Option δ} (h : o' = o.map u) (k : ∀ y, g' (u y) = (g y).map F) : o'.bind g' = (o.bind g).map F := by
  rw [h]
  cases o with
  | none => rfl
  | some x => exact k x
theorem cm_b2 {ε : Type} {o : Option (α × γ)} {o' : Option (α × ε)} {u : γ → ε} {g : α → γ → Option β} {g' : α → ε → Option δ} (h : o' = o.map (fun z => (id z.1, u z.2))) (k : ∀ a y, g' a (u y) = (g a y).map F) : bn2 o' g' = (bn2 o g).map F := by
  rw [h]
  cases o with
  | none => rfl
  | some x => exact k x.1 x.2
theorem cm_let {ku iu : Nat} {vu : Int32} {a a' : moS} {f : moS → Option β} {f' : moS → Option δ} (h : a' = moSI a ku iu vu) (k : ∀ y, f' (moSI y ku iu vu) = (f y).map F) : letS a' f' = (letS a f).map F := by
  rw [h]
  exact k a
theorem cm_if {c : Prop} [Decidable c] {a b : Option β} {a' b' : Option δ} (h1 : a' = a.map F) (h2 : b' = b.map F) : (if c then a' else b') = (if c then a else b).map F := by
  split
  · exact h1
  · exact h2
theorem cm_xo {o : Option β} {o' : Option δ} {u : α → γ} (h : o' = o.map F) : (xo o' : Option (γ ⊕ δ)) = (xo o : Option (α ⊕ β)).map (Sum.map u F) := by
  rw [h]
  cases o <;> rfl
theorem cm_nz {y : Int32} {o : Option β} {o' : Option δ} (h : o' = o.map F) : nz y o' = (nz y o).map F := by
  unfold nz
  split
  · rfl
  · exact h
theorem cm_nzL {y : Int64} {o : Option β} {o' : Option δ} (h : o' = o.map F) : nzL y o' = (nzL y o).map F := by
  unfold nzL
  split
  · rfl
  · exact h
theorem cm_okZ {y : Int32} {o : Option β} {o' : Option δ} (h : o' = o.map F) : okZ y o' = (okZ y o).map F := by
  unfold okZ
  split
  · exact h
  · rfl
theorem cm_lpN {f : α → Option (α ⊕ β)} {f' : γ → Option (γ ⊕ δ)} {u : α → γ} {v : β → δ} (h : ∀ y, f' (u y) = (f y).map (Sum.map u v)) : ∀ n x, lpN f' n (u x) = (lpN f n x).map v := by
  intro n
  induction n with
  | zero => intro x; rfl
  | succ n ih =>
    intro x
    unfold lpN
    rw [h]
    cases f x with
    | none => rfl
    | some z => cases z with
      | inl y => exact ih y
      | inr y => rfl
theorem cm_lp {f : α → Option (α ⊕ β)} {f' : γ → Option (γ ⊕ δ)} {u : α → γ} {v : β → δ} {x : α} {x' : γ} (ex : x' = u x) (h : ∀ y, f' (u y) = (f y).map (Sum.map u v)) : lp f' x' = (lp f x).map v := by
  rw [ex]
  cases e : lp f x with
  | some z =>
    obtain ⟨n, hn⟩ := lp_of e
    refine lp_to (n := n) ?_
    rw [cm_lpN h, hn]
    rfl
  | none =>
    cases e' : lp f' (u x) with
    | none => rfl
    | some z =>
      obtain ⟨n, hn⟩ := lp_of e'
      rw [cm_lpN h] at hn
      cases en : lpN f n x with
      | none => rw [en] at hn; cases hn
      | some w => rw [lp_to en] at e; cases e
end Cm
section Cn
variable {t : moS} {ku iu k : Nat} {vu i v : Int32}
theorem cm_rdI (h : k ≠ ku) : rdI (moSI t ku iu vu) k i = rdI t k i := by
  unfold rdI
  rw [moSI_n h]
  rfl
theorem cm_rdJ (_ : k ≠ ku) : rdJ (moSI t ku iu vu) k i = rdJ t k i := rfl
theorem cm_sw {a : Nat} (h : k ≠ ku) : moSI (moSI t ku iu vu) k a v = moSI (moSI t k a v) ku iu vu := by
  unfold moSI
  refine congrArg (fun f => ((t.1, t.2.1, f, t.2.2.2) : moS)) (funext fun j => ?_)
  show (if j = k then upd (if k = ku then upd (t.I ku) iu vu else t.I k) a v else if j = ku then upd (t.I ku) iu vu else t.I j) = (if j = ku then upd (if ku = k then upd (t.I k) a v else t.I ku) iu vu else if j = k then upd (t.I k) a v else t.I j)
  by_cases c : j = k
  · subst c
    rw [if_pos rfl, if_neg h, if_neg h, if_pos rfl]
  · rw [if_neg c]
    by_cases d : j = ku
    · subst d
      rw [if_pos rfl, if_pos rfl, if_neg (fun z => h z.symm)]
    · rw [if_neg d, if_neg d, if_neg c]
theorem cm_wrI (h : k ≠ ku) : wrI (moSI t ku iu vu) k i v = (wrI t k i v).map (fun y => moSI y ku iu vu) := by
  unfold wrI
  show (if i < 0 ∨ t.N k ≤ i.toNatClampNeg then none else some _) = _
  split
  · rfl
  · rw [cm_sw h]; rfl
theorem cm_wrZ (h : k ≠ ku) : wrZ (moSI t ku iu vu) k i v = (wrZ t k i v).map (fun y => moSI y ku iu vu) := by
  unfold wrZ
  show (if i < 0 ∨ t.N k ≤ i.toNatClampNeg then none else some _) = _
  split
  · rfl
  · rw [cm_sw h]; rfl
theorem cm_wrJ {v : Int64} (_ : k ≠ ku) : wrJ (moSI t ku iu vu) k i v = (wrJ t k i v).map (fun y => moSI y ku iu vu) := by
  unfold wrJ
  show (if i < 0 ∨ t.N k ≤ i.toNatClampNeg then none else some _) = _
  split
  · rfl
  · rfl
end Cn
theorem cM_isDue_b85 {ku iu : Nat} {vu : Int32} (hu : ku = 43) {t : moS} {p1 : Int32} {p2 : Int32} {p3 : Int64} {p5 : Int64} {p7 : Int32} {a8 : Int32} : M_isDue_b85 (moSI t ku iu vu) p1 p2 p3 p5 p7 a8 = Option.map (Sum.map (fun z : (Int32 × moS) => (id z.1, (fun y => moSI y ku iu vu) z.2)) (fun z : (Int32 × moS) => (id z.1, (fun y => moSI y ku iu vu) z.2))) (M_isDue_b85 t p1 p2 p3 p5 p7 a8) := by
  unfold M_isDue_b85
  exact rfl
theorem cM_isNetwork_b59 {ku iu : Nat} {vu : Int32} (hu : ku = 43) {t : moS} : M_isNetwork_b59 (moSI t ku iu vu) = Option.map id (M_isNetwork_b59 t) := by
  unfold M_isNetwork_b59
  exact rfl
theorem cM_isNetwork {ku iu : Nat} {vu : Int32} (hu : ku = 43) {t : moS} {p1 : Int32} {p2 : Int64} {p4 : Int64} {p6 : Int32} : M_isNetwork (moSI t ku iu vu) p1 p2 p4 p6 = Option.map id (M_isNetwork t p1 p2 p4 p6) := by
  unfold M_isNetwork
  exact (cm_bT (cm_rdI (ne_u hu (by decide))) (fun _ => (cm_if (cM_isNetwork_b59 hu) (cm_bT (cm_rdI (ne_u hu (by decide))) (fun _ => (cm_if (cm_bT (cm_rdJ (ne_u hu (by decide))) (fun _ => (cm_if (cm_bT (cm_rdJ (ne_u hu (by decide))) (fun _ => (cm_if rfl (cM_isNetwork_b59 hu)))) (cM_isNetwork_b59 hu)))) (cM_isNetwork_b59 hu)))))))
theorem cM_staticOf_b73 {ku iu : Nat} {vu : Int32} (hu : ku = 43) {t : moS} {p1 : Int32} {p2 : Int32} {p3 : Int64} {p5 : Int64} {p7 : Int32} {a8 : Int32} : M_staticOf_b73 (moSI t ku iu vu) p1 p2 p3 p5 p7 a8 = Option.map (Sum.map id id) (M_staticOf_b73 t p1 p2 p3 p5 p7 a8) := by
  unfold M_staticOf_b73
  exact rfl
theorem cM_staticOf_s6 {ku iu : Nat} {vu : Int32} (hu : ku = 43) {t : moS} {p1 : Int32} {p2 : Int32} {p3 : Int64} {p5 : Int64} {p7 : Int32} {a8 : Int32} : M_staticOf_s6 (moSI t ku iu vu) p1 p2 p3 p5 p7 a8 = Option.map (Sum.map id id) (M_staticOf_s6 t p1 p2 p3 p5 p7 a8) := by
  unfold M_staticOf_s6
  exact (cm_bT (cm_rdI (ne_u hu (by decide))) (fun _ => (cm_if (cm_bT (cm_rdI (ne_u hu (by decide))) (fun _ => (cm_if (cm_bT (cm_rdJ (ne_u hu (by decide))) (fun _ => (cm_if (cm_bT (cm_rdJ (ne_u hu (by decide))) (fun _ => (cm_if (cm_bT (cm_rdI (ne_u hu (by decide))) (fun _ => (cm_if (cm_xo rfl) (cM_staticOf_b73 hu)))) (cM_staticOf_b73 hu)))) (cM_staticOf_b73 hu)))) (cM_staticOf_b73 hu)))) (cm_xo rfl))))
theorem cM_staticOf_b6 {ku iu : Nat} {vu : Int32} (hu : ku = 43) {t : moS} {p1 : Int32} {p2 : Int32} {p3 : Int64} {p5 : Int64} {p7 : Int32} {a8 : Int32} : M_staticOf_b6 (moSI t ku iu vu) p1 p2 p3 p5 p7 a8 = Option.map id (M_staticOf_b6 t p1 p2 p3 p5 p7 a8) := by
  unfold M_staticOf_b6
  exact (cm_lp (u := id) (v := id) rfl (fun _ => (cM_staticOf_s6 hu)))
theorem cM_staticOf {ku iu : Nat} {vu : Int32} (hu : ku = 43) {t : moS} {p1 : Int32} {p2 : Int32} {p3 : Int64} {p5 : Int64} {p7 : Int32} : M_staticOf (moSI t ku iu vu) p1 p2 p3 p5 p7 = Option.map id (M_staticOf t p1 p2 p3 p5 p7) := by
  unfold M_staticOf
  exact (cM_staticOf_b6 hu)
theorem cM_isDue_s10 {ku iu : Nat} {vu : Int32} (hu : ku = 43) {t : moS} {p1 : Int32} {p2 : Int32} {p3 : Int64} {p5 : Int64} {p7 : Int32} {a8 : Int32} : M_isDue_s10 (moSI t ku iu vu) p1 p2 p3 p5 p7 a8 = Option.map (Sum.map (fun z : (Int32 × moS) => (id z.1, (fun y => moSI y ku iu vu) z.2)) (fun z : (Int32 × moS) => (id z.1, (fun y => moSI y ku iu vu) z.2))) (M_isDue_s10 t p1 p2 p3 p5 p7 a8) := by
  unfold M_isDue_s10
  exact (cm_bT (cm_rdI (ne_u hu (by decide))) (fun _ => (cm_if (cm_bT (cm_rdI (ne_u hu (by decide))) (fun _ => (cm_bT (cm_rdI (ne_u hu (by decide))) (fun _ => (cm_if (cM_isDue_b85 hu) (cm_bT (cm_id (cM_isNetwork hu)) (fun _ => (cm_if (cM_isDue_b85 hu) (cm_xo (cm_let (ku := ku) (iu := iu) (vu := vu) rfl (fun _ => (cm_bT (cm_rdI (ne_u hu (by decide))) (fun _ => (cm_let (ku := ku) (iu := iu) (vu := vu) rfl (fun _ => (cm_let (ku := ku) (iu := iu) (vu := vu) rfl (fun _ => rfl))))))))))))))))) (cm_xo (cm_bT (cm_id (cM_staticOf hu)) (fun _ => (cm_if rfl (cm_let (ku := ku) (iu := iu) (vu := vu) rfl (fun _ => (cm_bT (cm_rdI (ne_u hu (by decide))) (fun _ => (cm_let (ku := ku) (iu := iu) (vu := vu) rfl (fun _ => (cm_let (ku := ku) (iu := iu) (vu := vu) rfl (fun _ => (cm_bT (cm_rdI (ne_u hu (by decide))) (fun _ => (cm_let (ku := ku) (iu := iu) (vu := vu) rfl (fun _ => rfl)))))))))))))))))))
theorem cM_isDue_b10 {ku iu : Nat} {vu : Int32} (hu : ku = 43) {t : moS} {p1 : Int32} {p2 : Int32} {p3 : Int64} {p5 : Int64} {p7 : Int32} {a8 : Int32} : M_isDue_b10 (moSI t ku iu vu) p1 p2 p3 p5 p7 a8 = Option.map (fun z : (Int32 × moS) => (id z.1, (fun y => moSI y ku iu vu) z.2)) (M_isDue_b10 t p1 p2 p3 p5 p7 a8) := by
  unfold M_isDue_b10
  exact (cm_lp (u := (fun z : (Int32 × moS) => (id z.1, (fun y => moSI y ku iu vu) z.2))) (v := (fun z : (Int32 × moS) => (id z.1, (fun y => moSI y ku iu vu) z.2))) rfl (fun _ => (cM_isDue_s10 hu)))
theorem cM_isDue {ku iu : Nat} {vu : Int32} (hu : ku = 43) {t : moS} {p1 : Int32} {p2 : Int32} {p3 : Int64} {p5 : Int64} {p7 : Int32} : M_isDue (moSI t ku iu vu) p1 p2 p3 p5 p7 = Option.map (fun z : (Int32 × moS) => (id z.1, (fun y => moSI y ku iu vu) z.2)) (M_isDue t p1 p2 p3 p5 p7) := by
  unfold M_isDue
  exact (cm_let (ku := ku) (iu := iu) (vu := vu) rfl (fun _ => (cM_isDue_b10 hu)))
theorem cM_settle_b89 {ku iu : Nat} {vu : Int32} (hu : ku = 43) {t : moS} {p1 : Int32} {a2 : Int32} : M_settle_b89 (moSI t ku iu vu) p1 a2 = Option.map (Sum.map (fun z : (Int32 × moS) => (id z.1, (fun y => moSI y ku iu vu) z.2)) (fun y => moSI y ku iu vu)) (M_settle_b89 t p1 a2) := by
  unfold M_settle_b89
  exact rfl
theorem cM_markChanged {ku iu : Nat} {vu : Int32} (hu : ku = 43) {t : moS} {p1 : Int32} {p2 : Int32} : M_markChanged (moSI t ku iu vu) p1 p2 = Option.map (fun y => moSI y ku iu vu) (M_markChanged t p1 p2) := by
  unfold M_markChanged
  exact (cm_bS (cm_wrZ (ne_u hu (by decide))) (fun _ => (cm_bT (cm_rdI (ne_u hu (by decide))) (fun _ => (cm_bS (cm_wrI (ne_u hu (by decide))) (fun _ => (cm_bT (cm_rdI (ne_u hu (by decide))) (fun _ => (cm_if (cm_bT (cm_rdI (ne_u hu (by decide))) (fun _ => (cm_bS (cm_wrI (ne_u hu (by decide))) (fun _ => rfl)))) rfl)))))))))
theorem cM_die {ku iu : Nat} {vu : Int32} (hu : ku = 43) {t : moS} {p1 : Int32} {p2 : Int32} : M_die (moSI t ku iu vu) p1 p2 = Option.map (fun y => moSI y ku iu vu) (M_die t p1 p2) := by
  unfold M_die
  exact (cm_bT (cm_rdI (ne_u hu (by decide))) (fun _ => (cm_if rfl (cm_bS (cm_wrI (ne_u hu (by decide))) (fun _ => (cm_bT (cm_rdI (ne_u hu (by decide))) (fun _ => (cm_bS (cm_wrI (ne_u hu (by decide))) (fun _ => (cm_bS (cM_markChanged hu) (fun _ => rfl)))))))))))
theorem cM_forsake {ku iu : Nat} {vu : Int32} (hu : ku = 43) {t : moS} {p1 : Int32} {p2 : Int32} : M_forsake (moSI t ku iu vu) p1 p2 = Option.map (fun y => moSI y ku iu vu) (M_forsake t p1 p2) := by
  unfold M_forsake
  exact (cm_bS (cm_wrI (ne_u hu (by decide))) (fun _ => (cm_bS (cm_wrI (ne_u hu (by decide))) (fun _ => (cm_bS (cm_wrI (ne_u hu (by decide))) (fun _ => (cm_bS (cm_wrI (ne_u hu (by decide))) (fun _ => (cm_bS (cM_die hu) (fun _ => rfl))))))))))
theorem cM_become_b74 {ku iu : Nat} {vu : Int32} (hu : ku = 43) {t : moS} {p1 : Int32} {p2 : Int32} {u0 : Int32} : M_become_b74 (moSI t ku iu vu) p1 p2 u0 = Option.map (fun y => moSI y ku iu vu) (M_become_b74 t p1 p2 u0) := by
  unfold M_become_b74
  exact (cm_bS (cm_wrI (ne_u hu (by decide))) (fun _ => (cm_bS (cm_wrI (ne_u hu (by decide))) (fun _ => (cm_bS (cm_wrI (ne_u hu (by decide))) (fun _ => (cm_bS (cm_wrI (ne_u hu (by decide))) (fun _ => (cm_bS (cm_wrJ (ne_u hu (by decide))) (fun _ => (cm_bS (cm_wrJ (ne_u hu (by decide))) (fun _ => (cm_bS (cm_wrI (ne_u hu (by decide))) (fun _ => (cm_bS (cm_wrI (ne_u hu (by decide))) (fun _ => (cm_if rfl (cm_bS (cM_markChanged hu) (fun _ => rfl)))))))))))))))))))
theorem cM_become_b73 {ku iu : Nat} {vu : Int32} (hu : ku = 43) {t : moS} {p1 : Int32} {p2 : Int32} : M_become_b73 (moSI t ku iu vu) p1 p2 = Option.map (fun y => moSI y ku iu vu) (M_become_b73 t p1 p2) := by
  unfold M_become_b73
  exact (cM_become_b74 hu)
theorem cM_become_b69 {ku iu : Nat} {vu : Int32} (hu : ku = 43) {t : moS} {p1 : Int32} {p2 : Int32} : M_become_b69 (moSI t ku iu vu) p1 p2 = Option.map (fun y => moSI y ku iu vu) (M_become_b69 t p1 p2) := by
  unfold M_become_b69
  exact (cM_become_b74 hu)
theorem cM_become {ku iu : Nat} {vu : Int32} (hu : ku = 43) {t : moS} {p1 : Int32} {p2 : Int32} : M_become (moSI t ku iu vu) p1 p2 = Option.map (fun y => moSI y ku iu vu) (M_become t p1 p2) := by
  unfold M_become
  exact (cm_bT (cm_rdI (ne_u hu (by decide))) (fun _ => (cm_if (cm_bT (cm_rdI (ne_u hu (by decide))) (fun _ => (cm_if (cm_bT (cm_rdJ (ne_u hu (by decide))) (fun _ => (cm_if (cm_bT (cm_rdJ (ne_u hu (by decide))) (fun _ => (cm_if (cm_if (cm_bT (cm_rdI (ne_u hu (by decide))) (fun _ => (cm_if (cM_become_b73 hu) (cM_become_b69 hu)))) (cM_become_b73 hu)) (cM_become_b69 hu)))) (cM_become_b69 hu)))) (cM_become_b69 hu)))) (cM_become_b69 hu))))
theorem cM_settle_b172 {ku iu : Nat} {vu : Int32} (hu : ku = 43) {t : moS} {p1 : Int32} {a2 : Int32} : M_settle_b172 (moSI t ku iu vu) p1 a2 = Option.map (Sum.map (fun z : (Int32 × moS) => (id z.1, (fun y => moSI y ku iu vu) z.2)) (fun y => moSI y ku iu vu)) (M_settle_b172 t p1 a2) := by
  unfold M_settle_b172
  exact rfl
theorem cM_find_b75 {ku iu : Nat} {vu : Int32} (hu : ku = 43) {t : moS} {p1 : Int32} {p2 : Int32} {p3 : Int64} {p5 : Int64} {p7 : Int32} {a8 : Int32} : M_find_b75 (moSI t ku iu vu) p1 p2 p3 p5 p7 a8 = Option.map (Sum.map id id) (M_find_b75 t p1 p2 p3 p5 p7 a8) := by
  unfold M_find_b75
  exact rfl
theorem cM_find_s7 {ku iu : Nat} {vu : Int32} (hu : ku = 43) {t : moS} {p1 : Int32} {p2 : Int32} {p3 : Int64} {p5 : Int64} {p7 : Int32} {a8 : Int32} : M_find_s7 (moSI t ku iu vu) p1 p2 p3 p5 p7 a8 = Option.map (Sum.map id id) (M_find_s7 t p1 p2 p3 p5 p7 a8) := by
  unfold M_find_s7
  exact (cm_bT (cm_rdI (ne_u hu (by decide))) (fun _ => (cm_if (cm_bT (cm_rdI (ne_u hu (by decide))) (fun _ => (cm_if (cm_bT (cm_rdJ (ne_u hu (by decide))) (fun _ => (cm_if (cm_bT (cm_rdJ (ne_u hu (by decide))) (fun _ => (cm_if (cm_bT (cm_rdI (ne_u hu (by decide))) (fun _ => (cm_if (cm_xo rfl) (cM_find_b75 hu)))) (cM_find_b75 hu)))) (cM_find_b75 hu)))) (cM_find_b75 hu)))) (cm_xo rfl))))
theorem cM_find_b7 {ku iu : Nat} {vu : Int32} (hu : ku = 43) {t : moS} {p1 : Int32} {p2 : Int32} {p3 : Int64} {p5 : Int64} {p7 : Int32} {a8 : Int32} : M_find_b7 (moSI t ku iu vu) p1 p2 p3 p5 p7 a8 = Option.map id (M_find_b7 t p1 p2 p3 p5 p7 a8) := by
  unfold M_find_b7
  exact (cm_lp (u := id) (v := id) rfl (fun _ => (cM_find_s7 hu)))
theorem cM_find {ku iu : Nat} {vu : Int32} (hu : ku = 43) {t : moS} {p1 : Int32} {p2 : Int32} {p3 : Int64} {p5 : Int64} {p7 : Int32} : M_find (moSI t ku iu vu) p1 p2 p3 p5 p7 = Option.map id (M_find t p1 p2 p3 p5 p7) := by
  unfold M_find
  exact (cM_find_b7 hu)
theorem cM_isBehind {ku iu : Nat} {vu : Int32} (hu : ku = 43) {t : moS} {p1 : Int32} {p2 : Int32} {p3 : Int64} {p5 : Int64} {p7 : Int32} : M_isBehind (moSI t ku iu vu) p1 p2 p3 p5 p7 = Option.map id (M_isBehind t p1 p2 p3 p5 p7) := by
  unfold M_isBehind
  exact (cm_bT (cm_rdI (ne_u hu (by decide))) (fun _ => (cm_if (cm_bT (cm_rdJ (ne_u hu (by decide))) (fun _ => (cm_bT (cm_rdJ (ne_u hu (by decide))) (fun _ => (cm_bT (cm_rdI (ne_u hu (by decide))) (fun _ => (cm_bT rfl (fun _ => (cm_okZ rfl))))))))) (cm_bT (cm_rdI (ne_u hu (by decide))) (fun _ => (cm_if rfl rfl))))))
theorem cM_insert_b67 {ku iu : Nat} {vu : Int32} (hu : ku = 43) {t : moS} {p2 : Int32} {p3 : Int64} {p5 : Int64} {p7 : Int32} {a8 : Int32} : M_insert_b67 (moSI t ku iu vu) p2 p3 p5 p7 a8 = Option.map (fun z : (Int32 × moS) => (id z.1, (fun y => moSI y ku iu vu) z.2)) (M_insert_b67 t p2 p3 p5 p7 a8) := by
  unfold M_insert_b67
  exact (cm_bS (cm_wrI (ne_u hu (by decide))) (fun _ => (cm_bS (cm_wrJ (ne_u hu (by decide))) (fun _ => (cm_bS (cm_wrJ (ne_u hu (by decide))) (fun _ => (cm_bS (cm_wrI (ne_u hu (by decide))) (fun _ => (cm_bS (cm_wrI (ne_u hu (by decide))) (fun _ => (cm_bS (cm_wrZ (ne_u hu (by decide))) (fun _ => (cm_bS (cm_wrJ (ne_u hu (by decide))) (fun _ => (cm_bS (cm_wrJ (ne_u hu (by decide))) (fun _ => (cm_bS (cm_wrI (ne_u hu (by decide))) (fun _ => (cm_bS (cm_wrI (ne_u hu (by decide))) (fun _ => rfl))))))))))))))))))))
theorem cM_copyRoute {ku iu : Nat} {vu : Int32} (hu : ku = 43) {t : moS} {p1 : Int32} {p2 : Int32} : M_copyRoute (moSI t ku iu vu) p1 p2 = Option.map (fun y => moSI y ku iu vu) (M_copyRoute t p1 p2) := by
  unfold M_copyRoute
  exact (cm_bT (cm_rdI (ne_u hu (by decide))) (fun _ => (cm_bS (cm_wrI (ne_u hu (by decide))) (fun _ => (cm_bT (cm_rdJ (ne_u hu (by decide))) (fun _ => (cm_bS (cm_wrJ (ne_u hu (by decide))) (fun _ => (cm_bT (cm_rdJ (ne_u hu (by decide))) (fun _ => (cm_bS (cm_wrJ (ne_u hu (by decide))) (fun _ => (cm_bT (cm_rdI (ne_u hu (by decide))) (fun _ => (cm_bS (cm_wrI (ne_u hu (by decide))) (fun _ => (cm_bT (cm_rdI (ne_u hu (by decide))) (fun _ => (cm_bS (cm_wrI (ne_u hu (by decide))) (fun _ => (cm_bT (cm_rdI (ne_u hu (by decide))) (fun _ => (cm_bS (cm_wrI (ne_u hu (by decide))) (fun _ => (cm_bT (cm_rdI (ne_u hu (by decide))) (fun _ => (cm_bS (cm_wrI (ne_u hu (by decide))) (fun _ => (cm_bT (cm_rdI (ne_u hu (by decide))) (fun _ => (cm_bS (cm_wrI (ne_u hu (by decide))) (fun _ => (cm_bT (cm_rdJ (ne_u hu (by decide))) (fun _ => (cm_bS (cm_wrJ (ne_u hu (by decide))) (fun _ => (cm_bT (cm_rdJ (ne_u hu (by decide))) (fun _ => (cm_bS (cm_wrJ (ne_u hu (by decide))) (fun _ => (cm_bT (cm_rdI (ne_u hu (by decide))) (fun _ => (cm_bS (cm_wrI (ne_u hu (by decide))) (fun _ => (cm_bT (cm_rdJ (ne_u hu (by decide))) (fun _ => (cm_bS (cm_wrJ (ne_u hu (by decide))) (fun _ => (cm_bT (cm_rdJ (ne_u hu (by decide))) (fun _ => (cm_bS (cm_wrJ (ne_u hu (by decide))) (fun _ => (cm_bT (cm_rdI (ne_u hu (by decide))) (fun _ => (cm_bS (cm_wrZ (ne_u hu (by decide))) (fun _ => (cm_bT (cm_rdI (ne_u hu (by decide))) (fun _ => (cm_bS (cm_wrI (ne_u hu (by decide))) (fun _ => (cm_bT (cm_rdI (ne_u hu (by decide))) (fun _ => (cm_bS (cm_wrI (ne_u hu (by decide))) (fun _ => (cm_bT (cm_rdI (ne_u hu (by decide))) (fun _ => (cm_bS (cm_wrI (ne_u hu (by decide))) (fun _ => rfl))))))))))))))))))))))))))))))))))))))))))))))))))))))))))))))))))))
theorem cM_insert_s24 {ku iu : Nat} {vu : Int32} (hu : ku = 43) {t : moS} {p1 : Int32} {p2 : Int32} {p3 : Int64} {p5 : Int64} {p7 : Int32} {a8 : Int32} : M_insert_s24 (moSI t ku iu vu) p1 p2 p3 p5 p7 a8 = Option.map (Sum.map (fun z : (Int32 × moS) => (id z.1, (fun y => moSI y ku iu vu) z.2)) (fun z : (Int32 × moS) => (id z.1, (fun y => moSI y ku iu vu) z.2))) (M_insert_s24 t p1 p2 p3 p5 p7 a8) := by
  unfold M_insert_s24
  exact (cm_if (cm_bT (cm_id (cM_isBehind hu)) (fun _ => (cm_if (cm_xo (cM_insert_b67 hu)) (cm_bS (cM_copyRoute hu) (fun _ => rfl))))) (cm_xo (cM_insert_b67 hu)))
theorem cM_insert_b24 {ku iu : Nat} {vu : Int32} (hu : ku = 43) {t : moS} {p1 : Int32} {p2 : Int32} {p3 : Int64} {p5 : Int64} {p7 : Int32} {a8 : Int32} : M_insert_b24 (moSI t ku iu vu) p1 p2 p3 p5 p7 a8 = Option.map (fun z : (Int32 × moS) => (id z.1, (fun y => moSI y ku iu vu) z.2)) (M_insert_b24 t p1 p2 p3 p5 p7 a8) := by
  unfold M_insert_b24
  exact (cm_lp (u := (fun z : (Int32 × moS) => (id z.1, (fun y => moSI y ku iu vu) z.2))) (v := (fun z : (Int32 × moS) => (id z.1, (fun y => moSI y ku iu vu) z.2))) rfl (fun _ => (cM_insert_s24 hu)))
theorem cM_insert {ku iu : Nat} {vu : Int32} (hu : ku = 43) {t : moS} {p1 : Int32} {p2 : Int32} {p3 : Int64} {p5 : Int64} {p7 : Int32} : M_insert (moSI t ku iu vu) p1 p2 p3 p5 p7 = Option.map (fun z : (Int32 × moS) => (id z.1, (fun y => moSI y ku iu vu) z.2)) (M_insert t p1 p2 p3 p5 p7) := by
  unfold M_insert
  exact (cm_bT (cm_rdI (ne_u hu (by decide))) (fun _ => (cm_bT (cm_rdI (ne_u hu (by decide))) (fun _ => (cm_bS (cm_wrI (ne_u hu (by decide))) (fun _ => (cM_insert_b24 hu)))))))
theorem cM_come {ku iu : Nat} {vu : Int32} (hu : ku = 43) {t : moS} {p1 : Int32} {p2 : Int32} {p3 : Int64} {p5 : Int64} {p7 : Int32} : M_come (moSI t ku iu vu) p1 p2 p3 p5 p7 = Option.map (fun y => moSI y ku iu vu) (M_come t p1 p2 p3 p5 p7) := by
  unfold M_come
  exact (cm_bT (cm_id (cM_find hu)) (fun _ => (cm_if (cm_b2 (cM_isDue hu) (fun _ _ => (cm_if rfl (cm_b2 (cM_insert hu) (fun _ _ => (cm_bS (cm_wrI (ne_u hu (by decide))) (fun _ => (cm_bS (cm_wrI (ne_u hu (by decide))) (fun _ => (cm_bS (cm_wrI (ne_u hu (by decide))) (fun _ => (cm_bS (cm_wrI (ne_u hu (by decide))) (fun _ => (cm_bS (cM_markChanged hu) (fun _ => rfl))))))))))))))) rfl)))
theorem cM_settle_s183 {ku iu : Nat} {vu : Int32} (hu : ku = 43) {t : moS} {p1 : Int32} {a2 : Int32} : M_settle_s183 (moSI t ku iu vu) p1 a2 = Option.map (Sum.map (fun z : (Int32 × moS) => (id z.1, (fun y => moSI y ku iu vu) z.2)) (fun y => moSI y ku iu vu)) (M_settle_s183 t p1 a2) := by
  unfold M_settle_s183
  exact (cm_bT (cm_rdI (ne_u hu (by decide))) (fun _ => (cm_if (cm_bT (cm_rdI (ne_u hu (by decide))) (fun _ => (cm_bT (cm_rdJ (ne_u hu (by decide))) (fun _ => (cm_bT (cm_rdJ (ne_u hu (by decide))) (fun _ => (cm_bT (cm_rdI (ne_u hu (by decide))) (fun _ => (cm_bS (cM_come hu) (fun _ => rfl)))))))))) (cm_xo rfl))))
theorem cM_settle_b183 {ku iu : Nat} {vu : Int32} (hu : ku = 43) {t : moS} {p1 : Int32} {a2 : Int32} : M_settle_b183 (moSI t ku iu vu) p1 a2 = Option.map (fun y => moSI y ku iu vu) (M_settle_b183 t p1 a2) := by
  unfold M_settle_b183
  exact (cm_lp (u := (fun z : (Int32 × moS) => (id z.1, (fun y => moSI y ku iu vu) z.2))) (v := (fun y => moSI y ku iu vu)) rfl (fun _ => (cM_settle_s183 hu)))
theorem cM_settle_s100 {ku iu : Nat} {vu : Int32} (hu : ku = 43) {t : moS} {p1 : Int32} {a2 : Int32} : M_settle_s100 (moSI t ku iu vu) p1 a2 = Option.map (Sum.map (fun z : (Int32 × moS) => (id z.1, (fun y => moSI y ku iu vu) z.2)) (fun y => moSI y ku iu vu)) (M_settle_s100 t p1 a2) := by
  unfold M_settle_s100
  exact (cm_bT (cm_rdI (ne_u hu (by decide))) (fun _ => (cm_if (cm_bT (cm_rdI (ne_u hu (by decide))) (fun _ => (cm_if (cM_settle_b172 hu) (cm_bT (cm_rdJ (ne_u hu (by decide))) (fun _ => (cm_bT (cm_rdI (ne_u hu (by decide))) (fun _ => (cm_bT (cm_rdJ (ne_u hu (by decide))) (fun _ => (cm_bT (cm_rdI (ne_u hu (by decide))) (fun _ => (cm_bT (cm_rdI (ne_u hu (by decide))) (fun _ => (cm_bS (cM_come hu) (fun _ => (cM_settle_b172 hu)))))))))))))))) (cm_xo (cM_settle_b183 hu)))))
theorem cM_settle_b100 {ku iu : Nat} {vu : Int32} (hu : ku = 43) {t : moS} {p1 : Int32} {a2 : Int32} : M_settle_b100 (moSI t ku iu vu) p1 a2 = Option.map (fun y => moSI y ku iu vu) (M_settle_b100 t p1 a2) := by
  unfold M_settle_b100
  exact (cm_lp (u := (fun z : (Int32 × moS) => (id z.1, (fun y => moSI y ku iu vu) z.2))) (v := (fun y => moSI y ku iu vu)) rfl (fun _ => (cM_settle_s100 hu)))
theorem cM_settle_s16 {ku iu : Nat} {vu : Int32} (hu : ku = 43) {t : moS} {p1 : Int32} {a2 : Int32} : M_settle_s16 (moSI t ku iu vu) p1 a2 = Option.map (Sum.map (fun z : (Int32 × moS) => (id z.1, (fun y => moSI y ku iu vu) z.2)) (fun y => moSI y ku iu vu)) (M_settle_s16 t p1 a2) := by
  unfold M_settle_s16
  exact (cm_bT (cm_rdI (ne_u hu (by decide))) (fun _ => (cm_if (cm_bT (cm_rdI (ne_u hu (by decide))) (fun _ => (cm_bT (cm_rdJ (ne_u hu (by decide))) (fun _ => (cm_bT (cm_rdJ (ne_u hu (by decide))) (fun _ => (cm_bT (cm_rdI (ne_u hu (by decide))) (fun _ => (cm_b2 (cM_isDue hu) (fun _ _ => (cm_if (cm_bT (cm_rdI (ne_u hu (by decide))) (fun _ => (cm_if (cM_settle_b89 hu) (cm_bS (cM_forsake hu) (fun _ => (cM_settle_b89 hu)))))) (cm_bS (cM_become hu) (fun _ => (cM_settle_b89 hu)))))))))))))) (cm_xo (cM_settle_b100 hu)))))
theorem cM_settle_b16 {ku iu : Nat} {vu : Int32} (hu : ku = 43) {t : moS} {p1 : Int32} {a2 : Int32} : M_settle_b16 (moSI t ku iu vu) p1 a2 = Option.map (fun y => moSI y ku iu vu) (M_settle_b16 t p1 a2) := by
  unfold M_settle_b16
  exact (cm_lp (u := (fun z : (Int32 × moS) => (id z.1, (fun y => moSI y ku iu vu) z.2))) (v := (fun y => moSI y ku iu vu)) rfl (fun _ => (cM_settle_s16 hu)))
theorem cM_settle {ku iu : Nat} {vu : Int32} (hu : ku = 43) {t : moS} {p1 : Int32} : M_settle (moSI t ku iu vu) p1 = Option.map (fun y => moSI y ku iu vu) (M_settle t p1) := by
  unfold M_settle
  exact (cm_bT (cm_rdI (ne_u hu (by decide))) (fun _ => (cm_if rfl (cM_settle_b16 hu))))
theorem cM_requests_b26 {ku iu : Nat} {vu : Int32} (hu : ku = 43) {t : moS} {p1 : Int32} {a2 : Int32} : M_requests_b26 (moSI t ku iu vu) p1 a2 = Option.map (Sum.map (fun z : (Int32 × moS) => (id z.1, (fun y => moSI y ku iu vu) z.2)) (fun y => moSI y ku iu vu)) (M_requests_b26 t p1 a2) := by
  unfold M_requests_b26
  exact rfl
theorem cM_isGood_b30 {ku iu : Nat} {vu : Int32} (hu : ku = 43) {t : moS} : M_isGood_b30 (moSI t ku iu vu) = Option.map id (M_isGood_b30 t) := by
  unfold M_isGood_b30
  exact rfl
theorem cM_isGood {ku iu : Nat} {vu : Int32} (hu : ku = 43) {t : moS} {p1 : Int32} : M_isGood (moSI t ku iu vu) p1 = Option.map id (M_isGood t p1) := by
  unfold M_isGood
  exact (cm_bT (cm_rdI (ne_u hu (by decide))) (fun _ => (cm_if (cM_isGood_b30 hu) (cm_bT (cm_rdI (ne_u hu (by decide))) (fun _ => (cm_if (cM_isGood_b30 hu) rfl))))))
theorem cM_bornKey_b99 {ku iu : Nat} {vu : Int32} (hu : ku = 43) {t : moS} {p1 : Int32} {a2 : Int32} {a3 : Int32} : M_bornKey_b99 (moSI t ku iu vu) p1 a2 a3 = Option.map (Sum.map id id) (M_bornKey_b99 t p1 a2 a3) := by
  unfold M_bornKey_b99
  exact rfl
theorem cM_bornKey_b98 {ku iu : Nat} {vu : Int32} (hu : ku = 43) {t : moS} {p1 : Int32} {a3 : Int32} {u0 : Int32} : M_bornKey_b98 (moSI t ku iu vu) p1 a3 u0 = Option.map (Sum.map id id) (M_bornKey_b98 t p1 a3 u0) := by
  unfold M_bornKey_b98
  exact (cM_bornKey_b99 hu)
theorem cM_bornKey_b86 {ku iu : Nat} {vu : Int32} (hu : ku = 43) {t : moS} {p1 : Int32} {a2 : Int32} {a3 : Int32} {u0 : Int32} : M_bornKey_b86 (moSI t ku iu vu) p1 a2 a3 u0 = Option.map (Sum.map id id) (M_bornKey_b86 t p1 a2 a3 u0) := by
  unfold M_bornKey_b86
  exact (cm_if (cM_bornKey_b98 hu) (cM_bornKey_b98 hu))
theorem cM_bornKey_b81 {ku iu : Nat} {vu : Int32} (hu : ku = 43) {t : moS} {p1 : Int32} {a2 : Int32} {a3 : Int32} : M_bornKey_b81 (moSI t ku iu vu) p1 a2 a3 = Option.map (Sum.map id id) (M_bornKey_b81 t p1 a2 a3) := by
  unfold M_bornKey_b81
  exact (cM_bornKey_b86 hu)
theorem cM_bornKey_b85 {ku iu : Nat} {vu : Int32} (hu : ku = 43) {t : moS} {p1 : Int32} {a2 : Int32} {a3 : Int32} : M_bornKey_b85 (moSI t ku iu vu) p1 a2 a3 = Option.map (Sum.map id id) (M_bornKey_b85 t p1 a2 a3) := by
  unfold M_bornKey_b85
  exact (cM_bornKey_b86 hu)
theorem cM_bornKey_s6 {ku iu : Nat} {vu : Int32} (hu : ku = 43) {t : moS} {p1 : Int32} {a2 : Int32} {a3 : Int32} : M_bornKey_s6 (moSI t ku iu vu) p1 a2 a3 = Option.map (Sum.map id id) (M_bornKey_s6 t p1 a2 a3) := by
  unfold M_bornKey_s6
  exact (cm_bT (cm_rdI (ne_u hu (by decide))) (fun _ => (cm_if (cm_bT (cm_id (cM_isGood hu)) (fun _ => (cm_if (cM_bornKey_b99 hu) (cm_if (cM_bornKey_b81 hu) (cm_bT (cm_rdI (ne_u hu (by decide))) (fun _ => (cm_bT (cm_rdI (ne_u hu (by decide))) (fun _ => (cm_if (cM_bornKey_b81 hu) (cm_bT (cm_rdI (ne_u hu (by decide))) (fun _ => (cm_bT (cm_rdI (ne_u hu (by decide))) (fun _ => (cm_if (cm_bT (cm_rdI (ne_u hu (by decide))) (fun _ => (cm_bT (cm_rdI (ne_u hu (by decide))) (fun _ => (cm_if (cM_bornKey_b81 hu) (cM_bornKey_b85 hu)))))) (cM_bornKey_b85 hu))))))))))))))) (cm_xo rfl))))
theorem cM_bornKey_b6 {ku iu : Nat} {vu : Int32} (hu : ku = 43) {t : moS} {p1 : Int32} {a2 : Int32} {a3 : Int32} : M_bornKey_b6 (moSI t ku iu vu) p1 a2 a3 = Option.map id (M_bornKey_b6 t p1 a2 a3) := by
  unfold M_bornKey_b6
  exact (cm_lp (u := id) (v := id) rfl (fun _ => (cM_bornKey_s6 hu)))
theorem cM_bornKey {ku iu : Nat} {vu : Int32} (hu : ku = 43) {t : moS} {p1 : Int32} : M_bornKey (moSI t ku iu vu) p1 = Option.map id (M_bornKey t p1) := by
  unfold M_bornKey
  exact (cM_bornKey_b6 hu)
theorem cM_put2 {ku iu : Nat} {vu : Int32} (hu : ku = 43) {t : moS} {p1 : Nat} {p2 : Int32} {p3 : Int32} (hp1 : p1 ≠ ku) : M_put2 (moSI t ku iu vu) p1 p2 p3 = Option.map (fun y => moSI y ku iu vu) (M_put2 t p1 p2 p3) := by
  unfold M_put2
  exact (cm_bS (cm_wrI hp1) (fun _ => (cm_bS (cm_wrI hp1) (fun _ => rfl))))
theorem cM_put4 {ku iu : Nat} {vu : Int32} (hu : ku = 43) {t : moS} {p1 : Nat} {p2 : Int32} {p3 : Int32} (hp1 : p1 ≠ ku) : M_put4 (moSI t ku iu vu) p1 p2 p3 = Option.map (fun y => moSI y ku iu vu) (M_put4 t p1 p2 p3) := by
  unfold M_put4
  exact (cm_bS (cM_put2 hu hp1) (fun _ => (cm_bS (cM_put2 hu hp1) (fun _ => rfl))))
theorem cM_secret {ku iu : Nat} {vu : Int32} (hu : ku = 43) {t : moS} {p1 : Int32} {p2 : Int32} : M_secret (moSI t ku iu vu) p1 p2 = Option.map id (M_secret t p1 p2) := by
  unfold M_secret
  exact (cm_bT (cm_rdI (ne_u hu (by decide))) (fun _ => (cm_if (cm_bT (cm_rdI (ne_u hu (by decide))) (fun _ => rfl)) rfl)))
theorem cM_pad_b66 {ku iu : Nat} {vu : Int32} (hu : ku = 43) {t : moS} {p1 : Int32} {p2 : Int32} {a3 : Int32} {a4 : Int32} {u0 : Int32} : M_pad_b66 (moSI t ku iu vu) p1 p2 a3 a4 u0 = Option.map (Sum.map (fun z : (Int32 × moS) => (id z.1, (fun y => moSI y ku iu vu) z.2)) (fun z : (Int32 × moS) => (id z.1, (fun y => moSI y ku iu vu) z.2))) (M_pad_b66 t p1 p2 a3 a4 u0) := by
  unfold M_pad_b66
  exact (cm_bS (cm_wrI (ne_u hu (by decide))) (fun _ => rfl))
theorem cM_pad_s39 {ku iu : Nat} {vu : Int32} (hu : ku = 43) {t : moS} {p1 : Int32} {p2 : Int32} {a3 : Int32} {a4 : Int32} : M_pad_s39 (moSI t ku iu vu) p1 p2 a3 a4 = Option.map (Sum.map (fun z : (Int32 × moS) => (id z.1, (fun y => moSI y ku iu vu) z.2)) (fun z : (Int32 × moS) => (id z.1, (fun y => moSI y ku iu vu) z.2))) (M_pad_s39 t p1 p2 a3 a4) := by
  unfold M_pad_s39
  exact (cm_if (cm_if (cM_pad_b66 hu) (cM_pad_b66 hu)) (cm_xo rfl))
theorem cM_pad_b39 {ku iu : Nat} {vu : Int32} (hu : ku = 43) {t : moS} {p1 : Int32} {p2 : Int32} {a3 : Int32} {a4 : Int32} : M_pad_b39 (moSI t ku iu vu) p1 p2 a3 a4 = Option.map (fun z : (Int32 × moS) => (id z.1, (fun y => moSI y ku iu vu) z.2)) (M_pad_b39 t p1 p2 a3 a4) := by
  unfold M_pad_b39
  exact (cm_lp (u := (fun z : (Int32 × moS) => (id z.1, (fun y => moSI y ku iu vu) z.2))) (v := (fun z : (Int32 × moS) => (id z.1, (fun y => moSI y ku iu vu) z.2))) rfl (fun _ => (cM_pad_s39 hu)))
theorem cM_pad_s14 {ku iu : Nat} {vu : Int32} (hu : ku = 43) {t : moS} {p1 : Int32} {p2 : Int32} {a3 : Int32} : M_pad_s14 (moSI t ku iu vu) p1 p2 a3 = Option.map (Sum.map (fun z : (Int32 × moS) => (id z.1, (fun y => moSI y ku iu vu) z.2)) (fun z : (Int32 × moS) => (id z.1, (fun y => moSI y ku iu vu) z.2))) (M_pad_s14 t p1 p2 a3) := by
  unfold M_pad_s14
  exact (cm_if (cm_xo (cM_pad_b39 hu)) (cm_bS (cm_wrI (ne_u hu (by decide))) (fun _ => rfl)))
theorem cM_pad_b14 {ku iu : Nat} {vu : Int32} (hu : ku = 43) {t : moS} {p1 : Int32} {p2 : Int32} {a3 : Int32} : M_pad_b14 (moSI t ku iu vu) p1 p2 a3 = Option.map (fun z : (Int32 × moS) => (id z.1, (fun y => moSI y ku iu vu) z.2)) (M_pad_b14 t p1 p2 a3) := by
  unfold M_pad_b14
  exact (cm_lp (u := (fun z : (Int32 × moS) => (id z.1, (fun y => moSI y ku iu vu) z.2))) (v := (fun z : (Int32 × moS) => (id z.1, (fun y => moSI y ku iu vu) z.2))) rfl (fun _ => (cM_pad_s14 hu)))
theorem cM_pad {ku iu : Nat} {vu : Int32} (hu : ku = 43) {t : moS} {p1 : Int32} {p2 : Int32} : M_pad (moSI t ku iu vu) p1 p2 = Option.map (fun z : (Int32 × moS) => (id z.1, (fun y => moSI y ku iu vu) z.2)) (M_pad t p1 p2) := by
  unfold M_pad
  exact (cm_bS (cm_wrI (ne_u hu (by decide))) (fun _ => (cM_pad_b14 hu)))
theorem cM_md5Block_b228 {ku iu : Nat} {vu : Int32} (hu : ku = 43) {t : moS} {a2 : Int32} {a3 : Int32} {a4 : Int32} {a5 : Int32} {a6 : Int32} {a7 : Int32} {u0 : Int32} : M_md5Block_b228 (moSI t ku iu vu) a2 a3 a4 a5 a6 a7 u0 = Option.map (Sum.map (fun z : (Int32 × (Int32 × (Int32 × (Int32 × (Int32 × moS))))) => (id z.1, (fun z : (Int32 × (Int32 × (Int32 × (Int32 × moS)))) => (id z.1, (fun z : (Int32 × (Int32 × (Int32 × moS))) => (id z.1, (fun z : (Int32 × (Int32 × moS)) => (id z.1, (fun z : (Int32 × moS) => (id z.1, (fun y => moSI y ku iu vu) z.2)) z.2)) z.2)) z.2)) z.2)) (fun y => moSI y ku iu vu)) (M_md5Block_b228 t a2 a3 a4 a5 a6 a7 u0) := by
  unfold M_md5Block_b228
  exact (cm_bT (cm_rdI (ne_u hu (by decide))) (fun _ => rfl))
theorem cM_md5Block_b177 {ku iu : Nat} {vu : Int32} (hu : ku = 43) {t : moS} {a2 : Int32} {a3 : Int32} {a4 : Int32} {a5 : Int32} {a6 : Int32} {u0 : Int32} : M_md5Block_b177 (moSI t ku iu vu) a2 a3 a4 a5 a6 u0 = Option.map (Sum.map (fun z : (Int32 × (Int32 × (Int32 × (Int32 × (Int32 × moS))))) => (id z.1, (fun z : (Int32 × (Int32 × (Int32 × (Int32 × moS)))) => (id z.1, (fun z : (Int32 × (Int32 × (Int32 × moS))) => (id z.1, (fun z : (Int32 × (Int32 × moS)) => (id z.1, (fun z : (Int32 × moS) => (id z.1, (fun y => moSI y ku iu vu) z.2)) z.2)) z.2)) z.2)) z.2)) (fun y => moSI y ku iu vu)) (M_md5Block_b177 t a2 a3 a4 a5 a6 u0) := by
  unfold M_md5Block_b177
  exact (cm_if (cM_md5Block_b228 hu) (cm_if (cM_md5Block_b228 hu) (cm_if (cM_md5Block_b228 hu) (cM_md5Block_b228 hu))))
theorem cM_md5Block_s101 {ku iu : Nat} {vu : Int32} (hu : ku = 43) {t : moS} {a2 : Int32} {a3 : Int32} {a4 : Int32} {a5 : Int32} {a6 : Int32} : M_md5Block_s101 (moSI t ku iu vu) a2 a3 a4 a5 a6 = Option.map (Sum.map (fun z : (Int32 × (Int32 × (Int32 × (Int32 × (Int32 × moS))))) => (id z.1, (fun z : (Int32 × (Int32 × (Int32 × (Int32 × moS)))) => (id z.1, (fun z : (Int32 × (Int32 × (Int32 × moS))) => (id z.1, (fun z : (Int32 × (Int32 × moS)) => (id z.1, (fun z : (Int32 × moS) => (id z.1, (fun y => moSI y ku iu vu) z.2)) z.2)) z.2)) z.2)) z.2)) (fun y => moSI y ku iu vu)) (M_md5Block_s101 t a2 a3 a4 a5 a6) := by
  unfold M_md5Block_s101
  exact (cm_if (cm_if (cM_md5Block_b177 hu) (cm_if (cM_md5Block_b177 hu) (cm_if (cM_md5Block_b177 hu) (cM_md5Block_b177 hu)))) (cm_xo (cm_bT (cm_rdI (ne_u hu (by decide))) (fun _ => (cm_bS (cm_wrI (ne_u hu (by decide))) (fun _ => (cm_bT (cm_rdI (ne_u hu (by decide))) (fun _ => (cm_bS (cm_wrI (ne_u hu (by decide))) (fun _ => (cm_bT (cm_rdI (ne_u hu (by decide))) (fun _ => (cm_bS (cm_wrI (ne_u hu (by decide))) (fun _ => (cm_bT (cm_rdI (ne_u hu (by decide))) (fun _ => (cm_bS (cm_wrI (ne_u hu (by decide))) (fun _ => rfl))))))))))))))))))
theorem cM_md5Block_b101 {ku iu : Nat} {vu : Int32} (hu : ku = 43) {t : moS} {a2 : Int32} {a3 : Int32} {a4 : Int32} {a5 : Int32} {a6 : Int32} : M_md5Block_b101 (moSI t ku iu vu) a2 a3 a4 a5 a6 = Option.map (fun y => moSI y ku iu vu) (M_md5Block_b101 t a2 a3 a4 a5 a6) := by
  unfold M_md5Block_b101
  exact (cm_lp (u := (fun z : (Int32 × (Int32 × (Int32 × (Int32 × (Int32 × moS))))) => (id z.1, (fun z : (Int32 × (Int32 × (Int32 × (Int32 × moS)))) => (id z.1, (fun z : (Int32 × (Int32 × (Int32 × moS))) => (id z.1, (fun z : (Int32 × (Int32 × moS)) => (id z.1, (fun z : (Int32 × moS) => (id z.1, (fun y => moSI y ku iu vu) z.2)) z.2)) z.2)) z.2)) z.2))) (v := (fun y => moSI y ku iu vu)) rfl (fun _ => (cM_md5Block_s101 hu)))
theorem cM_md5Block_s2 {ku iu : Nat} {vu : Int32} (hu : ku = 43) {t : moS} {p1 : Int32} {a2 : Int32} : M_md5Block_s2 (moSI t ku iu vu) p1 a2 = Option.map (Sum.map (fun z : (Int32 × moS) => (id z.1, (fun y => moSI y ku iu vu) z.2)) (fun y => moSI y ku iu vu)) (M_md5Block_s2 t p1 a2) := by
  unfold M_md5Block_s2
  exact (cm_if (cm_bT (cm_rdI (ne_u hu (by decide))) (fun _ => (cm_bT (cm_rdI (ne_u hu (by decide))) (fun _ => (cm_bT (cm_rdI (ne_u hu (by decide))) (fun _ => (cm_bT (cm_rdI (ne_u hu (by decide))) (fun _ => (cm_bS (cm_wrI (ne_u hu (by decide))) (fun _ => rfl)))))))))) (cm_xo (cm_bT (cm_rdI (ne_u hu (by decide))) (fun _ => (cm_bT (cm_rdI (ne_u hu (by decide))) (fun _ => (cm_bT (cm_rdI (ne_u hu (by decide))) (fun _ => (cm_bT (cm_rdI (ne_u hu (by decide))) (fun _ => (cM_md5Block_b101 hu)))))))))))
theorem cM_md5Block_b2 {ku iu : Nat} {vu : Int32} (hu : ku = 43) {t : moS} {p1 : Int32} {a2 : Int32} : M_md5Block_b2 (moSI t ku iu vu) p1 a2 = Option.map (fun y => moSI y ku iu vu) (M_md5Block_b2 t p1 a2) := by
  unfold M_md5Block_b2
  exact (cm_lp (u := (fun z : (Int32 × moS) => (id z.1, (fun y => moSI y ku iu vu) z.2))) (v := (fun y => moSI y ku iu vu)) rfl (fun _ => (cM_md5Block_s2 hu)))
theorem cM_md5Block {ku iu : Nat} {vu : Int32} (hu : ku = 43) {t : moS} {p1 : Int32} : M_md5Block (moSI t ku iu vu) p1 = Option.map (fun y => moSI y ku iu vu) (M_md5Block t p1) := by
  unfold M_md5Block
  exact (cM_md5Block_b2 hu)
theorem cM_digest_b80 {ku iu : Nat} {vu : Int32} (hu : ku = 43) {t : moS} {p2 : Int32} {a3 : Int32} {a4 : Int32} : M_digest_b80 (moSI t ku iu vu) p2 a3 a4 = Option.map (Sum.map (fun z : (Int32 × moS) => (id z.1, (fun y => moSI y ku iu vu) z.2)) (fun y => moSI y ku iu vu)) (M_digest_b80 t p2 a3 a4) := by
  unfold M_digest_b80
  exact rfl
theorem cM_shaBlock_b293 {ku iu : Nat} {vu : Int32} (hu : ku = 43) {t : moS} {a2 : Int32} {a3 : Int32} {a4 : Int32} {a5 : Int32} {a6 : Int32} {a7 : Int32} {a8 : Int32} {u0 : Int32} : M_shaBlock_b293 (moSI t ku iu vu) a2 a3 a4 a5 a6 a7 a8 u0 = Option.map (Sum.map (fun z : (Int32 × (Int32 × (Int32 × (Int32 × (Int32 × (Int32 × moS)))))) => (id z.1, (fun z : (Int32 × (Int32 × (Int32 × (Int32 × (Int32 × moS))))) => (id z.1, (fun z : (Int32 × (Int32 × (Int32 × (Int32 × moS)))) => (id z.1, (fun z : (Int32 × (Int32 × (Int32 × moS))) => (id z.1, (fun z : (Int32 × (Int32 × moS)) => (id z.1, (fun z : (Int32 × moS) => (id z.1, (fun y => moSI y ku iu vu) z.2)) z.2)) z.2)) z.2)) z.2)) z.2)) (fun y => moSI y ku iu vu)) (M_shaBlock_b293 t a2 a3 a4 a5 a6 a7 a8 u0) := by
  unfold M_shaBlock_b293
  exact (cm_bT (cm_rdI (ne_u hu (by decide))) (fun _ => rfl))
theorem cM_shaBlock_b249 {ku iu : Nat} {vu : Int32} (hu : ku = 43) {t : moS} {a2 : Int32} {a3 : Int32} {a4 : Int32} {a5 : Int32} {a6 : Int32} {a7 : Int32} {u0 : Int32} : M_shaBlock_b249 (moSI t ku iu vu) a2 a3 a4 a5 a6 a7 u0 = Option.map (Sum.map (fun z : (Int32 × (Int32 × (Int32 × (Int32 × (Int32 × (Int32 × moS)))))) => (id z.1, (fun z : (Int32 × (Int32 × (Int32 × (Int32 × (Int32 × moS))))) => (id z.1, (fun z : (Int32 × (Int32 × (Int32 × (Int32 × moS)))) => (id z.1, (fun z : (Int32 × (Int32 × (Int32 × moS))) => (id z.1, (fun z : (Int32 × (Int32 × moS)) => (id z.1, (fun z : (Int32 × moS) => (id z.1, (fun y => moSI y ku iu vu) z.2)) z.2)) z.2)) z.2)) z.2)) z.2)) (fun y => moSI y ku iu vu)) (M_shaBlock_b249 t a2 a3 a4 a5 a6 a7 u0) := by
  unfold M_shaBlock_b249
  exact (cm_if (cM_shaBlock_b293 hu) (cm_if (cM_shaBlock_b293 hu) (cm_if (cM_shaBlock_b293 hu) (cM_shaBlock_b293 hu))))
theorem cM_shaBlock_s172 {ku iu : Nat} {vu : Int32} (hu : ku = 43) {t : moS} {a2 : Int32} {a3 : Int32} {a4 : Int32} {a5 : Int32} {a6 : Int32} {a7 : Int32} : M_shaBlock_s172 (moSI t ku iu vu) a2 a3 a4 a5 a6 a7 = Option.map (Sum.map (fun z : (Int32 × (Int32 × (Int32 × (Int32 × (Int32 × (Int32 × moS)))))) => (id z.1, (fun z : (Int32 × (Int32 × (Int32 × (Int32 × (Int32 × moS))))) => (id z.1, (fun z : (Int32 × (Int32 × (Int32 × (Int32 × moS)))) => (id z.1, (fun z : (Int32 × (Int32 × (Int32 × moS))) => (id z.1, (fun z : (Int32 × (Int32 × moS)) => (id z.1, (fun z : (Int32 × moS) => (id z.1, (fun y => moSI y ku iu vu) z.2)) z.2)) z.2)) z.2)) z.2)) z.2)) (fun y => moSI y ku iu vu)) (M_shaBlock_s172 t a2 a3 a4 a5 a6 a7) := by
  unfold M_shaBlock_s172
  exact (cm_if (cm_if (cM_shaBlock_b249 hu) (cm_if (cM_shaBlock_b249 hu) (cm_if (cM_shaBlock_b249 hu) (cM_shaBlock_b249 hu)))) (cm_xo (cm_bT (cm_rdI (ne_u hu (by decide))) (fun _ => (cm_bS (cm_wrI (ne_u hu (by decide))) (fun _ => (cm_bT (cm_rdI (ne_u hu (by decide))) (fun _ => (cm_bS (cm_wrI (ne_u hu (by decide))) (fun _ => (cm_bT (cm_rdI (ne_u hu (by decide))) (fun _ => (cm_bS (cm_wrI (ne_u hu (by decide))) (fun _ => (cm_bT (cm_rdI (ne_u hu (by decide))) (fun _ => (cm_bS (cm_wrI (ne_u hu (by decide))) (fun _ => (cm_bT (cm_rdI (ne_u hu (by decide))) (fun _ => (cm_bS (cm_wrI (ne_u hu (by decide))) (fun _ => rfl))))))))))))))))))))))
theorem cM_shaBlock_b172 {ku iu : Nat} {vu : Int32} (hu : ku = 43) {t : moS} {a2 : Int32} {a3 : Int32} {a4 : Int32} {a5 : Int32} {a6 : Int32} {a7 : Int32} : M_shaBlock_b172 (moSI t ku iu vu) a2 a3 a4 a5 a6 a7 = Option.map (fun y => moSI y ku iu vu) (M_shaBlock_b172 t a2 a3 a4 a5 a6 a7) := by
  unfold M_shaBlock_b172
  exact (cm_lp (u := (fun z : (Int32 × (Int32 × (Int32 × (Int32 × (Int32 × (Int32 × moS)))))) => (id z.1, (fun z : (Int32 × (Int32 × (Int32 × (Int32 × (Int32 × moS))))) => (id z.1, (fun z : (Int32 × (Int32 × (Int32 × (Int32 × moS)))) => (id z.1, (fun z : (Int32 × (Int32 × (Int32 × moS))) => (id z.1, (fun z : (Int32 × (Int32 × moS)) => (id z.1, (fun z : (Int32 × moS) => (id z.1, (fun y => moSI y ku iu vu) z.2)) z.2)) z.2)) z.2)) z.2)) z.2))) (v := (fun y => moSI y ku iu vu)) rfl (fun _ => (cM_shaBlock_s172 hu)))
theorem cM_shaBlock_s71 {ku iu : Nat} {vu : Int32} (hu : ku = 43) {t : moS} {a2 : Int32} : M_shaBlock_s71 (moSI t ku iu vu) a2 = Option.map (Sum.map (fun z : (Int32 × moS) => (id z.1, (fun y => moSI y ku iu vu) z.2)) (fun y => moSI y ku iu vu)) (M_shaBlock_s71 t a2) := by
  unfold M_shaBlock_s71
  exact (cm_if (cm_bT (cm_rdI (ne_u hu (by decide))) (fun _ => (cm_bT (cm_rdI (ne_u hu (by decide))) (fun _ => (cm_bT (cm_rdI (ne_u hu (by decide))) (fun _ => (cm_bT (cm_rdI (ne_u hu (by decide))) (fun _ => (cm_bS (cm_wrI (ne_u hu (by decide))) (fun _ => rfl)))))))))) (cm_xo (cm_bT (cm_rdI (ne_u hu (by decide))) (fun _ => (cm_bT (cm_rdI (ne_u hu (by decide))) (fun _ => (cm_bT (cm_rdI (ne_u hu (by decide))) (fun _ => (cm_bT (cm_rdI (ne_u hu (by decide))) (fun _ => (cm_bT (cm_rdI (ne_u hu (by decide))) (fun _ => (cM_shaBlock_b172 hu)))))))))))))
theorem cM_shaBlock_b71 {ku iu : Nat} {vu : Int32} (hu : ku = 43) {t : moS} {a2 : Int32} : M_shaBlock_b71 (moSI t ku iu vu) a2 = Option.map (fun y => moSI y ku iu vu) (M_shaBlock_b71 t a2) := by
  unfold M_shaBlock_b71
  exact (cm_lp (u := (fun z : (Int32 × moS) => (id z.1, (fun y => moSI y ku iu vu) z.2))) (v := (fun y => moSI y ku iu vu)) rfl (fun _ => (cM_shaBlock_s71 hu)))
theorem cM_shaBlock_s2 {ku iu : Nat} {vu : Int32} (hu : ku = 43) {t : moS} {p1 : Int32} {a2 : Int32} : M_shaBlock_s2 (moSI t ku iu vu) p1 a2 = Option.map (Sum.map (fun z : (Int32 × moS) => (id z.1, (fun y => moSI y ku iu vu) z.2)) (fun y => moSI y ku iu vu)) (M_shaBlock_s2 t p1 a2) := by
  unfold M_shaBlock_s2
  exact (cm_if (cm_bT (cm_rdI (ne_u hu (by decide))) (fun _ => (cm_bT (cm_rdI (ne_u hu (by decide))) (fun _ => (cm_bT (cm_rdI (ne_u hu (by decide))) (fun _ => (cm_bT (cm_rdI (ne_u hu (by decide))) (fun _ => (cm_bS (cm_wrI (ne_u hu (by decide))) (fun _ => rfl)))))))))) (cm_xo (cM_shaBlock_b71 hu)))
theorem cM_shaBlock_b2 {ku iu : Nat} {vu : Int32} (hu : ku = 43) {t : moS} {p1 : Int32} {a2 : Int32} : M_shaBlock_b2 (moSI t ku iu vu) p1 a2 = Option.map (fun y => moSI y ku iu vu) (M_shaBlock_b2 t p1 a2) := by
  unfold M_shaBlock_b2
  exact (cm_lp (u := (fun z : (Int32 × moS) => (id z.1, (fun y => moSI y ku iu vu) z.2))) (v := (fun y => moSI y ku iu vu)) rfl (fun _ => (cM_shaBlock_s2 hu)))
theorem cM_shaBlock {ku iu : Nat} {vu : Int32} (hu : ku = 43) {t : moS} {p1 : Int32} : M_shaBlock (moSI t ku iu vu) p1 = Option.map (fun y => moSI y ku iu vu) (M_shaBlock t p1) := by
  unfold M_shaBlock
  exact (cM_shaBlock_b2 hu)
theorem cM_digest_b163 {ku iu : Nat} {vu : Int32} (hu : ku = 43) {t : moS} {p2 : Int32} {a4 : Int32} {u1 : Int32} {u2 : Int32} : M_digest_b163 (moSI t ku iu vu) p2 a4 u1 u2 = Option.map (Sum.map (fun z : (Int32 × moS) => (id z.1, (fun y => moSI y ku iu vu) z.2)) (fun y => moSI y ku iu vu)) (M_digest_b163 t p2 a4 u1 u2) := by
  unfold M_digest_b163
  exact (cm_bS (cm_wrI (ne_u hu (by decide))) (fun _ => rfl))
theorem cM_digest_b102 {ku iu : Nat} {vu : Int32} (hu : ku = 43) {t : moS} {p2 : Int32} {a4 : Int32} {u0 : Int32} {u1 : Int32} : M_digest_b102 (moSI t ku iu vu) p2 a4 u0 u1 = Option.map (Sum.map (fun z : (Int32 × moS) => (id z.1, (fun y => moSI y ku iu vu) z.2)) (fun y => moSI y ku iu vu)) (M_digest_b102 t p2 a4 u0 u1) := by
  unfold M_digest_b102
  exact (cm_if (cm_if (cm_bT (cm_rdI (ne_u hu (by decide))) (fun _ => (cM_digest_b163 hu))) (cm_bT (cm_rdI (ne_u hu (by decide))) (fun _ => (cM_digest_b163 hu)))) (cm_xo rfl))
theorem cM_digest_s89 {ku iu : Nat} {vu : Int32} (hu : ku = 43) {t : moS} {p2 : Int32} {a4 : Int32} : M_digest_s89 (moSI t ku iu vu) p2 a4 = Option.map (Sum.map (fun z : (Int32 × moS) => (id z.1, (fun y => moSI y ku iu vu) z.2)) (fun y => moSI y ku iu vu)) (M_digest_s89 t p2 a4) := by
  unfold M_digest_s89
  exact (cm_if (cM_digest_b102 hu) (cM_digest_b102 hu))
theorem cM_digest_b89 {ku iu : Nat} {vu : Int32} (hu : ku = 43) {t : moS} {p2 : Int32} {a4 : Int32} : M_digest_b89 (moSI t ku iu vu) p2 a4 = Option.map (fun y => moSI y ku iu vu) (M_digest_b89 t p2 a4) := by
  unfold M_digest_b89
  exact (cm_lp (u := (fun z : (Int32 × moS) => (id z.1, (fun y => moSI y ku iu vu) z.2))) (v := (fun y => moSI y ku iu vu)) rfl (fun _ => (cM_digest_s89 hu)))
theorem cM_digest_s55 {ku iu : Nat} {vu : Int32} (hu : ku = 43) {t : moS} {p2 : Int32} {a3 : Int32} {a4 : Int32} : M_digest_s55 (moSI t ku iu vu) p2 a3 a4 = Option.map (Sum.map (fun z : (Int32 × moS) => (id z.1, (fun y => moSI y ku iu vu) z.2)) (fun y => moSI y ku iu vu)) (M_digest_s55 t p2 a3 a4) := by
  unfold M_digest_s55
  exact (cm_if (cm_if (cm_bS (cM_md5Block hu) (fun _ => (cM_digest_b80 hu))) (cm_bS (cM_shaBlock hu) (fun _ => (cM_digest_b80 hu)))) (cm_xo (cM_digest_b89 hu)))
theorem cM_digest_b55 {ku iu : Nat} {vu : Int32} (hu : ku = 43) {t : moS} {p2 : Int32} {a3 : Int32} {a4 : Int32} : M_digest_b55 (moSI t ku iu vu) p2 a3 a4 = Option.map (fun y => moSI y ku iu vu) (M_digest_b55 t p2 a3 a4) := by
  unfold M_digest_b55
  exact (cm_lp (u := (fun z : (Int32 × moS) => (id z.1, (fun y => moSI y ku iu vu) z.2))) (v := (fun y => moSI y ku iu vu)) rfl (fun _ => (cM_digest_s55 hu)))
theorem cM_digest {ku iu : Nat} {vu : Int32} (hu : ku = 43) {t : moS} {p1 : Int32} {p2 : Int32} : M_digest (moSI t ku iu vu) p1 p2 = Option.map (fun y => moSI y ku iu vu) (M_digest t p1 p2) := by
  unfold M_digest
  exact (cm_bS (cm_wrI (ne_u hu (by decide))) (fun _ => (cm_bS (cm_wrI (ne_u hu (by decide))) (fun _ => (cm_bS (cm_wrI (ne_u hu (by decide))) (fun _ => (cm_bS (cm_wrI (ne_u hu (by decide))) (fun _ => (cm_bS (cm_wrI (ne_u hu (by decide))) (fun _ => (cm_b2 (cM_pad hu) (fun _ _ => (cM_digest_b55 hu)))))))))))))
theorem cM_sumOf_s38 {ku iu : Nat} {vu : Int32} (hu : ku = 43) {t : moS} {p1 : Int32} {p3 : Int32} {a4 : Int32} : M_sumOf_s38 (moSI t ku iu vu) p1 p3 a4 = Option.map (Sum.map (fun z : (Int32 × moS) => (id z.1, (fun y => moSI y ku iu vu) z.2)) (fun y => moSI y ku iu vu)) (M_sumOf_s38 t p1 p3 a4) := by
  unfold M_sumOf_s38
  exact (cm_if (cm_bT (cm_id (cM_secret hu)) (fun _ => (cm_bS (cm_wrI (ne_u hu (by decide))) (fun _ => rfl)))) (cm_xo (cm_bS (cM_digest hu) (fun _ => rfl))))
theorem cM_sumOf_b38 {ku iu : Nat} {vu : Int32} (hu : ku = 43) {t : moS} {p1 : Int32} {p3 : Int32} {a4 : Int32} : M_sumOf_b38 (moSI t ku iu vu) p1 p3 a4 = Option.map (fun y => moSI y ku iu vu) (M_sumOf_b38 t p1 p3 a4) := by
  unfold M_sumOf_b38
  exact (cm_lp (u := (fun z : (Int32 × moS) => (id z.1, (fun y => moSI y ku iu vu) z.2))) (v := (fun y => moSI y ku iu vu)) rfl (fun _ => (cM_sumOf_s38 hu)))
theorem cM_sumOf_s12 {ku iu : Nat} {vu : Int32} (hu : ku = 43) {t : moS} {p1 : Int32} {p2 : Nat} {p3 : Int32} {a4 : Int32} (hp2 : p2 ≠ ku) : M_sumOf_s12 (moSI t ku iu vu) p1 p2 p3 a4 = Option.map (Sum.map (fun z : (Int32 × moS) => (id z.1, (fun y => moSI y ku iu vu) z.2)) (fun y => moSI y ku iu vu)) (M_sumOf_s12 t p1 p2 p3 a4) := by
  unfold M_sumOf_s12
  exact (cm_if (cm_bT (cm_rdI hp2) (fun _ => (cm_bS (cm_wrI (ne_u hu (by decide))) (fun _ => rfl)))) (cm_xo (cM_sumOf_b38 hu)))
theorem cM_sumOf_b12 {ku iu : Nat} {vu : Int32} (hu : ku = 43) {t : moS} {p1 : Int32} {p2 : Nat} {p3 : Int32} {a4 : Int32} (hp2 : p2 ≠ ku) : M_sumOf_b12 (moSI t ku iu vu) p1 p2 p3 a4 = Option.map (fun y => moSI y ku iu vu) (M_sumOf_b12 t p1 p2 p3 a4) := by
  unfold M_sumOf_b12
  exact (cm_lp (u := (fun z : (Int32 × moS) => (id z.1, (fun y => moSI y ku iu vu) z.2))) (v := (fun y => moSI y ku iu vu)) rfl (fun _ => (cM_sumOf_s12 hu hp2)))
theorem cM_sumOf_s184 {ku iu : Nat} {vu : Int32} (hu : ku = 43) {t : moS} {a4 : Int32} : M_sumOf_s184 (moSI t ku iu vu) a4 = Option.map (Sum.map (fun z : (Int32 × moS) => (id z.1, (fun y => moSI y ku iu vu) z.2)) (fun y => moSI y ku iu vu)) (M_sumOf_s184 t a4) := by
  unfold M_sumOf_s184
  exact (cm_if (cm_bT (cm_rdI (ne_u hu (by decide))) (fun _ => (cm_bS (cm_wrI (ne_u hu (by decide))) (fun _ => rfl)))) (cm_xo (cm_bS (cM_digest hu) (fun _ => rfl))))
theorem cM_sumOf_b184 {ku iu : Nat} {vu : Int32} (hu : ku = 43) {t : moS} {a4 : Int32} : M_sumOf_b184 (moSI t ku iu vu) a4 = Option.map (fun y => moSI y ku iu vu) (M_sumOf_b184 t a4) := by
  unfold M_sumOf_b184
  exact (cm_lp (u := (fun z : (Int32 × moS) => (id z.1, (fun y => moSI y ku iu vu) z.2))) (v := (fun y => moSI y ku iu vu)) rfl (fun _ => (cM_sumOf_s184 hu)))
theorem cM_sumOf_s151 {ku iu : Nat} {vu : Int32} (hu : ku = 43) {t : moS} {p1 : Int32} {a4 : Int32} : M_sumOf_s151 (moSI t ku iu vu) p1 a4 = Option.map (Sum.map (fun z : (Int32 × moS) => (id z.1, (fun y => moSI y ku iu vu) z.2)) (fun y => moSI y ku iu vu)) (M_sumOf_s151 t p1 a4) := by
  unfold M_sumOf_s151
  exact (cm_if (cm_bT (cm_id (cM_secret hu)) (fun _ => (cm_bS (cm_wrI (ne_u hu (by decide))) (fun _ => rfl)))) (cm_xo (cM_sumOf_b184 hu)))
theorem cM_sumOf_b151 {ku iu : Nat} {vu : Int32} (hu : ku = 43) {t : moS} {p1 : Int32} {a4 : Int32} : M_sumOf_b151 (moSI t ku iu vu) p1 a4 = Option.map (fun y => moSI y ku iu vu) (M_sumOf_b151 t p1 a4) := by
  unfold M_sumOf_b151
  exact (cm_lp (u := (fun z : (Int32 × moS) => (id z.1, (fun y => moSI y ku iu vu) z.2))) (v := (fun y => moSI y ku iu vu)) rfl (fun _ => (cM_sumOf_s151 hu)))
theorem cM_sumOf_s113 {ku iu : Nat} {vu : Int32} (hu : ku = 43) {t : moS} {p1 : Int32} {p2 : Nat} {p3 : Int32} {a4 : Int32} (hp2 : p2 ≠ ku) : M_sumOf_s113 (moSI t ku iu vu) p1 p2 p3 a4 = Option.map (Sum.map (fun z : (Int32 × moS) => (id z.1, (fun y => moSI y ku iu vu) z.2)) (fun y => moSI y ku iu vu)) (M_sumOf_s113 t p1 p2 p3 a4) := by
  unfold M_sumOf_s113
  exact (cm_if (cm_bT (cm_rdI hp2) (fun _ => (cm_bS (cm_wrI (ne_u hu (by decide))) (fun _ => rfl)))) (cm_xo (cm_bS (cM_digest hu) (fun _ => (cM_sumOf_b151 hu)))))
theorem cM_sumOf_b113 {ku iu : Nat} {vu : Int32} (hu : ku = 43) {t : moS} {p1 : Int32} {p2 : Nat} {p3 : Int32} {a4 : Int32} (hp2 : p2 ≠ ku) : M_sumOf_b113 (moSI t ku iu vu) p1 p2 p3 a4 = Option.map (fun y => moSI y ku iu vu) (M_sumOf_b113 t p1 p2 p3 a4) := by
  unfold M_sumOf_b113
  exact (cm_lp (u := (fun z : (Int32 × moS) => (id z.1, (fun y => moSI y ku iu vu) z.2))) (v := (fun y => moSI y ku iu vu)) rfl (fun _ => (cM_sumOf_s113 hu hp2)))
theorem cM_sumOf_s80 {ku iu : Nat} {vu : Int32} (hu : ku = 43) {t : moS} {p1 : Int32} {p2 : Nat} {p3 : Int32} {a4 : Int32} (hp2 : p2 ≠ ku) : M_sumOf_s80 (moSI t ku iu vu) p1 p2 p3 a4 = Option.map (Sum.map (fun z : (Int32 × moS) => (id z.1, (fun y => moSI y ku iu vu) z.2)) (fun y => moSI y ku iu vu)) (M_sumOf_s80 t p1 p2 p3 a4) := by
  unfold M_sumOf_s80
  exact (cm_if (cm_bT (cm_id (cM_secret hu)) (fun _ => (cm_bS (cm_wrI (ne_u hu (by decide))) (fun _ => rfl)))) (cm_xo (cM_sumOf_b113 hu hp2)))
theorem cM_sumOf_b80 {ku iu : Nat} {vu : Int32} (hu : ku = 43) {t : moS} {p1 : Int32} {p2 : Nat} {p3 : Int32} {a4 : Int32} (hp2 : p2 ≠ ku) : M_sumOf_b80 (moSI t ku iu vu) p1 p2 p3 a4 = Option.map (fun y => moSI y ku iu vu) (M_sumOf_b80 t p1 p2 p3 a4) := by
  unfold M_sumOf_b80
  exact (cm_lp (u := (fun z : (Int32 × moS) => (id z.1, (fun y => moSI y ku iu vu) z.2))) (v := (fun y => moSI y ku iu vu)) rfl (fun _ => (cM_sumOf_s80 hu hp2)))
theorem cM_sumOf {ku iu : Nat} {vu : Int32} (hu : ku = 43) {t : moS} {p1 : Int32} {p2 : Nat} {p3 : Int32} (hp2 : p2 ≠ ku) : M_sumOf (moSI t ku iu vu) p1 p2 p3 = Option.map (fun y => moSI y ku iu vu) (M_sumOf t p1 p2 p3) := by
  unfold M_sumOf
  exact (cm_bT (cm_rdI (ne_u hu (by decide))) (fun _ => (cm_if (cM_sumOf_b12 hu hp2) (cM_sumOf_b80 hu hp2))))
theorem cM_wrap_b438 {ku iu : Nat} {vu : Int32} (hu : ku = 43) {t : moS} {u1 : Int32} {u2 : Int32} : M_wrap_b438 (moSI t ku iu vu) u1 u2 = Option.map (fun z : (Int32 × moS) => (id z.1, (fun y => moSI y ku iu vu) z.2)) (M_wrap_b438 t u1 u2) := by
  unfold M_wrap_b438
  exact (cm_let (ku := ku) (iu := iu) (vu := vu) rfl (fun _ => rfl))
theorem cM_wrap_s382 {ku iu : Nat} {vu : Int32} (hu : ku = 43) {t : moS} {a6 : Int32} {a7 : Int32} {a8 : Int32} : M_wrap_s382 (moSI t ku iu vu) a6 a7 a8 = Option.map (Sum.map (fun z : (Int32 × moS) => (id z.1, (fun y => moSI y ku iu vu) z.2)) (fun z : (Int32 × moS) => (id z.1, (fun y => moSI y ku iu vu) z.2))) (M_wrap_s382 t a6 a7 a8) := by
  unfold M_wrap_s382
  exact (cm_if (cm_bT (cm_rdI (ne_u hu (by decide))) (fun _ => (cm_bS (cm_wrI (ne_u hu (by decide))) (fun _ => rfl)))) (cm_xo (cm_bT (cm_rdI (ne_u hu (by decide))) (fun _ => (cm_if (cM_wrap_b438 hu) (cM_wrap_b438 hu))))))
theorem cM_wrap_b382 {ku iu : Nat} {vu : Int32} (hu : ku = 43) {t : moS} {a6 : Int32} {a7 : Int32} {a8 : Int32} : M_wrap_b382 (moSI t ku iu vu) a6 a7 a8 = Option.map (fun z : (Int32 × moS) => (id z.1, (fun y => moSI y ku iu vu) z.2)) (M_wrap_b382 t a6 a7 a8) := by
  unfold M_wrap_b382
  exact (cm_lp (u := (fun z : (Int32 × moS) => (id z.1, (fun y => moSI y ku iu vu) z.2))) (v := (fun z : (Int32 × moS) => (id z.1, (fun y => moSI y ku iu vu) z.2))) rfl (fun _ => (cM_wrap_s382 hu)))
theorem cM_wrap_b268 {ku iu : Nat} {vu : Int32} (hu : ku = 43) {t : moS} {p1 : Int32} {a6 : Int32} {u0 : Int32} : M_wrap_b268 (moSI t ku iu vu) p1 a6 u0 = Option.map (fun z : (Int32 × moS) => (id z.1, (fun y => moSI y ku iu vu) z.2)) (M_wrap_b268 t p1 a6 u0) := by
  unfold M_wrap_b268
  exact (cm_bS (cM_put2 hu (ne_u hu (by decide))) (fun _ => (cm_bT (cm_rdI (ne_u hu (by decide))) (fun _ => (cm_bS (cm_wrI (ne_u hu (by decide))) (fun _ => (cm_bS (cm_wrI (ne_u hu (by decide))) (fun _ => (cm_bT (cm_rdI (ne_u hu (by decide))) (fun _ => (cm_bS (cM_put4 hu (ne_u hu (by decide))) (fun _ => (cm_bT (cm_rdI (ne_u hu (by decide))) (fun _ => (cm_bS (cm_wrI (ne_u hu (by decide))) (fun _ => (cm_bS (cM_put2 hu (ne_u hu (by decide))) (fun _ => (cm_bS (cM_put2 hu (ne_u hu (by decide))) (fun _ => (cm_bS (cM_sumOf hu (ne_u hu (by decide))) (fun _ => (cM_wrap_b382 hu)))))))))))))))))))))))
theorem cM_wrap_s194 {ku iu : Nat} {vu : Int32} (hu : ku = 43) {t : moS} {p1 : Int32} {p4 : Int32} {a5 : Int32} {a6 : Int32} {a7 : Int32} : M_wrap_s194 (moSI t ku iu vu) p1 p4 a5 a6 a7 = Option.map (Sum.map (fun z : (Int32 × moS) => (id z.1, (fun y => moSI y ku iu vu) z.2)) (fun z : (Int32 × moS) => (id z.1, (fun y => moSI y ku iu vu) z.2))) (M_wrap_s194 t p1 p4 a5 a6 a7) := by
  unfold M_wrap_s194
  exact (cm_if (cm_bT (cm_rdI (ne_u hu (by decide))) (fun _ => (cm_bS (cm_wrI (ne_u hu (by decide))) (fun _ => rfl)))) (cm_xo (cm_let (ku := ku) (iu := iu) (vu := vu) rfl (fun _ => (cm_if rfl (cm_bT (cm_rdI (ne_u hu (by decide))) (fun _ => (cm_if (cM_wrap_b268 hu) (cM_wrap_b268 hu)))))))))
theorem cM_wrap_b194 {ku iu : Nat} {vu : Int32} (hu : ku = 43) {t : moS} {p1 : Int32} {p4 : Int32} {a5 : Int32} {a6 : Int32} {a7 : Int32} : M_wrap_b194 (moSI t ku iu vu) p1 p4 a5 a6 a7 = Option.map (fun z : (Int32 × moS) => (id z.1, (fun y => moSI y ku iu vu) z.2)) (M_wrap_b194 t p1 p4 a5 a6 a7) := by
  unfold M_wrap_b194
  exact (cm_lp (u := (fun z : (Int32 × moS) => (id z.1, (fun y => moSI y ku iu vu) z.2))) (v := (fun z : (Int32 × moS) => (id z.1, (fun y => moSI y ku iu vu) z.2))) rfl (fun _ => (cM_wrap_s194 hu)))
theorem cM_wrap_b191 {ku iu : Nat} {vu : Int32} (hu : ku = 43) {t : moS} {p1 : Int32} {p4 : Int32} {a5 : Int32} {a6 : Int32} : M_wrap_b191 (moSI t ku iu vu) p1 p4 a5 a6 = Option.map (fun z : (Int32 × moS) => (id z.1, (fun y => moSI y ku iu vu) z.2)) (M_wrap_b191 t p1 p4 a5 a6) := by
  unfold M_wrap_b191
  exact (cM_wrap_b194 hu)
theorem cM_wrap_s152 {ku iu : Nat} {vu : Int32} (hu : ku = 43) {t : moS} {p1 : Int32} {p4 : Int32} {a5 : Int32} {a6 : Int32} {a7 : Int32} : M_wrap_s152 (moSI t ku iu vu) p1 p4 a5 a6 a7 = Option.map (Sum.map (fun z : (Int32 × moS) => (id z.1, (fun y => moSI y ku iu vu) z.2)) (fun z : (Int32 × moS) => (id z.1, (fun y => moSI y ku iu vu) z.2))) (M_wrap_s152 t p1 p4 a5 a6 a7) := by
  unfold M_wrap_s152
  exact (cm_bT (cm_rdI (ne_u hu (by decide))) (fun _ => (cm_if (cm_bT (cm_rdI (ne_u hu (by decide))) (fun _ => (cm_bS (cm_wrI (ne_u hu (by decide))) (fun _ => rfl)))) (cm_xo (cM_wrap_b191 hu)))))
theorem cM_wrap_b152 {ku iu : Nat} {vu : Int32} (hu : ku = 43) {t : moS} {p1 : Int32} {p4 : Int32} {a5 : Int32} {a6 : Int32} {a7 : Int32} : M_wrap_b152 (moSI t ku iu vu) p1 p4 a5 a6 a7 = Option.map (fun z : (Int32 × moS) => (id z.1, (fun y => moSI y ku iu vu) z.2)) (M_wrap_b152 t p1 p4 a5 a6 a7) := by
  unfold M_wrap_b152
  exact (cm_lp (u := (fun z : (Int32 × moS) => (id z.1, (fun y => moSI y ku iu vu) z.2))) (v := (fun z : (Int32 × moS) => (id z.1, (fun y => moSI y ku iu vu) z.2))) rfl (fun _ => (cM_wrap_s152 hu)))
theorem cM_wrap_b143 {ku iu : Nat} {vu : Int32} (hu : ku = 43) {t : moS} {p1 : Int32} {p4 : Int32} {a5 : Int32} {a6 : Int32} : M_wrap_b143 (moSI t ku iu vu) p1 p4 a5 a6 = Option.map (fun z : (Int32 × moS) => (id z.1, (fun y => moSI y ku iu vu) z.2)) (M_wrap_b143 t p1 p4 a5 a6) := by
  unfold M_wrap_b143
  exact (cm_if (cM_wrap_b152 hu) (cM_wrap_b191 hu))
theorem cM_wrap_b134 {ku iu : Nat} {vu : Int32} (hu : ku = 43) {t : moS} {p1 : Int32} {p4 : Int32} {a5 : Int32} {a6 : Int32} {u2 : Int32} {u3 : Int32} : M_wrap_b134 (moSI t ku iu vu) p1 p4 a5 a6 u2 u3 = Option.map (fun z : (Int32 × moS) => (id z.1, (fun y => moSI y ku iu vu) z.2)) (M_wrap_b134 t p1 p4 a5 a6 u2 u3) := by
  unfold M_wrap_b134
  exact (cm_bS (cM_put2 hu (ne_u hu (by decide))) (fun _ => (cm_let (ku := ku) (iu := iu) (vu := vu) rfl (fun _ => (cM_wrap_b143 hu)))))
theorem cM_wrap_b99 {ku iu : Nat} {vu : Int32} (hu : ku = 43) {t : moS} {p1 : Int32} {p4 : Int32} {a5 : Int32} {a6 : Int32} : M_wrap_b99 (moSI t ku iu vu) p1 p4 a5 a6 = Option.map (fun z : (Int32 × moS) => (id z.1, (fun y => moSI y ku iu vu) z.2)) (M_wrap_b99 t p1 p4 a5 a6) := by
  unfold M_wrap_b99
  exact (cm_if (cm_bS (cM_put2 hu (ne_u hu (by decide))) (fun _ => (cm_if (cM_wrap_b134 hu) (cM_wrap_b134 hu)))) (cM_wrap_b143 hu))
theorem cM_wrap_b83 {ku iu : Nat} {vu : Int32} (hu : ku = 43) {t : moS} {p1 : Int32} {p4 : Int32} {a5 : Int32} {u0 : Int32} : M_wrap_b83 (moSI t ku iu vu) p1 p4 a5 u0 = Option.map (fun z : (Int32 × moS) => (id z.1, (fun y => moSI y ku iu vu) z.2)) (M_wrap_b83 t p1 p4 a5 u0) := by
  unfold M_wrap_b83
  exact (cm_if (cm_if rfl (cM_wrap_b99 hu)) (cM_wrap_b99 hu))
theorem cM_wrap_b66 {ku iu : Nat} {vu : Int32} (hu : ku = 43) {t : moS} {p1 : Int32} {p4 : Int32} {u0 : Int32} : M_wrap_b66 (moSI t ku iu vu) p1 p4 u0 = Option.map (fun z : (Int32 × moS) => (id z.1, (fun y => moSI y ku iu vu) z.2)) (M_wrap_b66 t p1 p4 u0) := by
  unfold M_wrap_b66
  exact (cm_if (cm_bT (cm_id (cM_bornKey hu)) (fun _ => (cM_wrap_b83 hu))) (cM_wrap_b83 hu))
theorem cM_wrap_b46 {ku iu : Nat} {vu : Int32} (hu : ku = 43) {t : moS} {p1 : Int32} {p2 : Int32} {p4 : Int32} {u1 : Int32} {u2 : Int32} : M_wrap_b46 (moSI t ku iu vu) p1 p2 p4 u1 u2 = Option.map (fun z : (Int32 × moS) => (id z.1, (fun y => moSI y ku iu vu) z.2)) (M_wrap_b46 t p1 p2 p4 u1 u2) := by
  unfold M_wrap_b46
  exact (cm_bS (cm_wrI (ne_u hu (by decide))) (fun _ => (cm_let (ku := ku) (iu := iu) (vu := vu) rfl (fun _ => (cm_if (cm_bT (cm_rdI (ne_u hu (by decide))) (fun _ => (cM_wrap_b66 hu))) (cM_wrap_b66 hu))))))
theorem cM_wrap_s3 {ku iu : Nat} {vu : Int32} (hu : ku = 43) {t : moS} {p1 : Int32} {p2 : Int32} {p3 : Int32} {p4 : Int32} {a5 : Int32} : M_wrap_s3 (moSI t ku iu vu) p1 p2 p3 p4 a5 = Option.map (Sum.map (fun z : (Int32 × moS) => (id z.1, (fun y => moSI y ku iu vu) z.2)) (fun z : (Int32 × moS) => (id z.1, (fun y => moSI y ku iu vu) z.2))) (M_wrap_s3 t p1 p2 p3 p4 a5) := by
  unfold M_wrap_s3
  exact (cm_if (cm_bS (cm_wrI (ne_u hu (by decide))) (fun _ => rfl)) (cm_xo (cm_bS (cm_wrI (ne_u hu (by decide))) (fun _ => (cm_if (cM_wrap_b46 hu) (cM_wrap_b46 hu))))))
theorem cM_wrap_b3 {ku iu : Nat} {vu : Int32} (hu : ku = 43) {t : moS} {p1 : Int32} {p2 : Int32} {p3 : Int32} {p4 : Int32} {a5 : Int32} : M_wrap_b3 (moSI t ku iu vu) p1 p2 p3 p4 a5 = Option.map (fun z : (Int32 × moS) => (id z.1, (fun y => moSI y ku iu vu) z.2)) (M_wrap_b3 t p1 p2 p3 p4 a5) := by
  unfold M_wrap_b3
  exact (cm_lp (u := (fun z : (Int32 × moS) => (id z.1, (fun y => moSI y ku iu vu) z.2))) (v := (fun z : (Int32 × moS) => (id z.1, (fun y => moSI y ku iu vu) z.2))) rfl (fun _ => (cM_wrap_s3 hu)))
theorem cM_wrap {ku iu : Nat} {vu : Int32} (hu : ku = 43) {t : moS} {p1 : Int32} {p2 : Int32} {p3 : Int32} {p4 : Int32} : M_wrap (moSI t ku iu vu) p1 p2 p3 p4 = Option.map (fun z : (Int32 × moS) => (id z.1, (fun y => moSI y ku iu vu) z.2)) (M_wrap t p1 p2 p3 p4) := by
  unfold M_wrap
  exact (cM_wrap_b3 hu)
theorem cM_go_s288 {ku iu : Nat} {vu : Int32} (hu : ku = 43) {t : moS} {a17 : Int32} {a18 : Int32} : M_go_s288 (moSI t ku iu vu) a17 a18 = Option.map (Sum.map (fun z : (Int32 × moS) => (id z.1, (fun y => moSI y ku iu vu) z.2)) (fun y => moSI y ku iu vu)) (M_go_s288 t a17 a18) := by
  unfold M_go_s288
  exact (cm_if (cm_bT (cm_rdI (ne_u hu (by decide))) (fun _ => (cm_bS (cm_wrI (ne_u hu (by decide))) (fun _ => rfl)))) (cm_xo rfl))
theorem cM_go_b288 {ku iu : Nat} {vu : Int32} (hu : ku = 43) {t : moS} {a17 : Int32} {a18 : Int32} : M_go_b288 (moSI t ku iu vu) a17 a18 = Option.map (fun y => moSI y ku iu vu) (M_go_b288 t a17 a18) := by
  unfold M_go_b288
  exact (cm_lp (u := (fun z : (Int32 × moS) => (id z.1, (fun y => moSI y ku iu vu) z.2))) (v := (fun y => moSI y ku iu vu)) rfl (fun _ => (cM_go_s288 hu)))
theorem cM_go_s105 {ku iu : Nat} {vu : Int32} (hu : ku = 43) {t : moS} {p1 : Int32} {p2 : Int32} {p3 : Int32} {p4 : Int64} {p6 : Int64} {p8 : Int32} {p9 : Int64} {p11 : Int64} {p13 : Int32} {p14 : Int32} {a16 : Int32} {a17 : Int32} : M_go_s105 (moSI t ku iu vu) p1 p2 p3 p4 p6 p8 p9 p11 p13 p14 a16 a17 = Option.map (Sum.map (fun z : (Int32 × moS) => (id z.1, (fun y => moSI y ku iu vu) z.2)) (fun y => moSI y ku iu vu)) (M_go_s105 t p1 p2 p3 p4 p6 p8 p9 p11 p13 p14 a16 a17) := by
  unfold M_go_s105
  exact (cm_bT (cm_rdI (ne_u hu (by decide))) (fun _ => (cm_if (cm_xo (cm_bS (cm_wrZ (ne_u hu (by decide))) (fun _ => (cm_bS (cm_wrI (ne_u hu (by decide))) (fun _ => (cm_let (ku := ku) (iu := iu) (vu := vu) rfl (fun _ => (cm_bS (cm_wrI (ne_u hu (by decide))) (fun _ => (cm_bS (cm_wrI (ne_u hu (by decide))) (fun _ => (cm_bS (cm_wrZ (ne_u hu (by decide))) (fun _ => (cm_bS (cm_wrJ (ne_u hu (by decide))) (fun _ => (cm_bS (cm_wrJ (ne_u hu (by decide))) (fun _ => (cm_bS (cm_wrI (ne_u hu (by decide))) (fun _ => (cm_bS (cm_wrJ (ne_u hu (by decide))) (fun _ => (cm_bS (cm_wrJ (ne_u hu (by decide))) (fun _ => (cm_bS (cm_wrI (ne_u hu (by decide))) (fun _ => (cm_bS (cm_wrI (ne_u hu (by decide))) (fun _ => (cm_bT (cm_rdI (ne_u hu (by decide))) (fun _ => (cm_bT (cm_rdI (ne_u hu (by decide))) (fun _ => (cm_nzL (cm_bS (cm_wrI (ne_u hu (by decide))) (fun _ => (cm_bS (cm_wrI (ne_u hu (by decide))) (fun _ => (cM_go_b288 hu))))))))))))))))))))))))))))))))))))) rfl)))
theorem cM_go_b105 {ku iu : Nat} {vu : Int32} (hu : ku = 43) {t : moS} {p1 : Int32} {p2 : Int32} {p3 : Int32} {p4 : Int64} {p6 : Int64} {p8 : Int32} {p9 : Int64} {p11 : Int64} {p13 : Int32} {p14 : Int32} {a16 : Int32} {a17 : Int32} : M_go_b105 (moSI t ku iu vu) p1 p2 p3 p4 p6 p8 p9 p11 p13 p14 a16 a17 = Option.map (fun y => moSI y ku iu vu) (M_go_b105 t p1 p2 p3 p4 p6 p8 p9 p11 p13 p14 a16 a17) := by
  unfold M_go_b105
  exact (cm_lp (u := (fun z : (Int32 × moS) => (id z.1, (fun y => moSI y ku iu vu) z.2))) (v := (fun y => moSI y ku iu vu)) rfl (fun _ => (cM_go_s105 hu)))
theorem cM_go_b102 {ku iu : Nat} {vu : Int32} (hu : ku = 43) {t : moS} {p1 : Int32} {p2 : Int32} {p3 : Int32} {p4 : Int64} {p6 : Int64} {p8 : Int32} {p9 : Int64} {p11 : Int64} {p13 : Int32} {p14 : Int32} {a16 : Int32} : M_go_b102 (moSI t ku iu vu) p1 p2 p3 p4 p6 p8 p9 p11 p13 p14 a16 = Option.map (fun y => moSI y ku iu vu) (M_go_b102 t p1 p2 p3 p4 p6 p8 p9 p11 p13 p14 a16) := by
  unfold M_go_b102
  exact (cM_go_b105 hu)
theorem cM_go_s31 {ku iu : Nat} {vu : Int32} (hu : ku = 43) {t : moS} {p1 : Int32} {p2 : Int32} {p3 : Int32} {p4 : Int64} {p6 : Int64} {p8 : Int32} {p9 : Int64} {p11 : Int64} {p13 : Int32} {p14 : Int32} {p15 : Int32} {a16 : Int32} {a17 : Int32} : M_go_s31 (moSI t ku iu vu) p1 p2 p3 p4 p6 p8 p9 p11 p13 p14 p15 a16 a17 = Option.map (Sum.map (fun z : (Int32 × moS) => (id z.1, (fun y => moSI y ku iu vu) z.2)) (fun y => moSI y ku iu vu)) (M_go_s31 t p1 p2 p3 p4 p6 p8 p9 p11 p13 p14 p15 a16 a17) := by
  unfold M_go_s31
  exact (cm_if (cm_bT (cm_rdI (ne_u hu (by decide))) (fun _ => (cm_bS (cm_wrI (ne_u hu (by decide))) (fun _ => rfl)))) (cm_xo (cm_if rfl (cm_if (cM_go_b102 hu) (cm_bT (cm_rdI (ne_u hu (by decide))) (fun _ => (cm_if (cm_bT (cm_rdI (ne_u hu (by decide))) (fun _ => (cm_bS (cm_wrI (ne_u hu (by decide))) (fun _ => rfl)))) (cM_go_b102 hu))))))))
theorem cM_go_b31 {ku iu : Nat} {vu : Int32} (hu : ku = 43) {t : moS} {p1 : Int32} {p2 : Int32} {p3 : Int32} {p4 : Int64} {p6 : Int64} {p8 : Int32} {p9 : Int64} {p11 : Int64} {p13 : Int32} {p14 : Int32} {p15 : Int32} {a16 : Int32} {a17 : Int32} : M_go_b31 (moSI t ku iu vu) p1 p2 p3 p4 p6 p8 p9 p11 p13 p14 p15 a16 a17 = Option.map (fun y => moSI y ku iu vu) (M_go_b31 t p1 p2 p3 p4 p6 p8 p9 p11 p13 p14 p15 a16 a17) := by
  unfold M_go_b31
  exact (cm_lp (u := (fun z : (Int32 × moS) => (id z.1, (fun y => moSI y ku iu vu) z.2))) (v := (fun y => moSI y ku iu vu)) rfl (fun _ => (cM_go_s31 hu)))
theorem cM_go {ku iu : Nat} {vu : Int32} (hu : ku = 43) {t : moS} {p1 : Int32} {p2 : Int32} {p3 : Int32} {p4 : Int64} {p6 : Int64} {p8 : Int32} {p9 : Int64} {p11 : Int64} {p13 : Int32} {p14 : Int32} {p15 : Int32} : M_go (moSI t ku iu vu) p1 p2 p3 p4 p6 p8 p9 p11 p13 p14 p15 = Option.map (fun y => moSI y ku iu vu) (M_go t p1 p2 p3 p4 p6 p8 p9 p11 p13 p14 p15) := by
  unfold M_go
  exact (cm_bT (cm_rdI (ne_u hu (by decide))) (fun _ => (cm_bT (cm_rdI (ne_u hu (by decide))) (fun _ => (cm_bS (cm_wrI (ne_u hu (by decide))) (fun _ => (cm_bS (cm_wrI (ne_u hu (by decide))) (fun _ => (cM_go_b31 hu)))))))))
theorem cM_send_b93 {ku iu : Nat} {vu : Int32} (hu : ku = 43) {t : moS} {u1 : Int32} {u2 : Int32} {u3 : Int32} {u4 : Int64} {u5 : Int64} {u6 : Int32} {u7 : Int64} {u8 : Int64} {u9 : Int32} : M_send_b93 (moSI t ku iu vu) u1 u2 u3 u4 u5 u6 u7 u8 u9 = Option.map (fun y => moSI y ku iu vu) (M_send_b93 t u1 u2 u3 u4 u5 u6 u7 u8 u9) := by
  unfold M_send_b93
  exact (cm_bS (cM_go hu) (fun _ => rfl))
theorem cM_send {ku iu : Nat} {vu : Int32} (hu : ku = 43) {t : moS} {p1 : Int32} {p2 : Int32} {p3 : Int32} {p4 : Int32} {p5 : Int32} {p6 : Int64} {p8 : Int64} : M_send (moSI t ku iu vu) p1 p2 p3 p4 p5 p6 p8 = Option.map (fun y => moSI y ku iu vu) (M_send t p1 p2 p3 p4 p5 p6 p8) := by
  unfold M_send
  exact (cm_bT (cm_rdI (ne_u hu (by decide))) (fun _ => (cm_bT (cm_rdI (ne_u hu (by decide))) (fun _ => (cm_if rfl (cm_b2 (cM_wrap hu) (fun _ _ => (cm_if rfl (cm_bT (cm_rdI (ne_u hu (by decide))) (fun _ => (cm_bS (cm_wrI (ne_u hu (by decide))) (fun _ => (cm_bT (cm_rdI (ne_u hu (by decide))) (fun _ => (cm_bT (cm_rdJ (ne_u hu (by decide))) (fun _ => (cm_bT (cm_rdJ (ne_u hu (by decide))) (fun _ => (cm_if (cM_send_b93 hu) (cM_send_b93 hu))))))))))))))))))))
theorem cM_request_s2 {ku iu : Nat} {vu : Int32} (hu : ku = 43) {t : moS} {p1 : Int32} {p2 : Int32} {a3 : Int32} : M_request_s2 (moSI t ku iu vu) p1 p2 a3 = Option.map (Sum.map (fun z : (Int32 × moS) => (id z.1, (fun y => moSI y ku iu vu) z.2)) (fun y => moSI y ku iu vu)) (M_request_s2 t p1 p2 a3) := by
  unfold M_request_s2
  exact (cm_if (cm_bS (cm_wrI (ne_u hu (by decide))) (fun _ => rfl)) (cm_xo (cm_bS (cm_wrI (ne_u hu (by decide))) (fun _ => (cm_bS (cM_send hu) (fun _ => rfl))))))
theorem cM_request_b2 {ku iu : Nat} {vu : Int32} (hu : ku = 43) {t : moS} {p1 : Int32} {p2 : Int32} {a3 : Int32} : M_request_b2 (moSI t ku iu vu) p1 p2 a3 = Option.map (fun y => moSI y ku iu vu) (M_request_b2 t p1 p2 a3) := by
  unfold M_request_b2
  exact (cm_lp (u := (fun z : (Int32 × moS) => (id z.1, (fun y => moSI y ku iu vu) z.2))) (v := (fun y => moSI y ku iu vu)) rfl (fun _ => (cM_request_s2 hu)))
theorem cM_request {ku iu : Nat} {vu : Int32} (hu : ku = 43) {t : moS} {p1 : Int32} {p2 : Int32} : M_request (moSI t ku iu vu) p1 p2 = Option.map (fun y => moSI y ku iu vu) (M_request t p1 p2) := by
  unfold M_request
  exact (cM_request_b2 hu)
theorem cM_requests_s2 {ku iu : Nat} {vu : Int32} (hu : ku = 43) {t : moS} {p1 : Int32} {a2 : Int32} : M_requests_s2 (moSI t ku iu vu) p1 a2 = Option.map (Sum.map (fun z : (Int32 × moS) => (id z.1, (fun y => moSI y ku iu vu) z.2)) (fun y => moSI y ku iu vu)) (M_requests_s2 t p1 a2) := by
  unfold M_requests_s2
  exact (cm_if (cm_bT (cm_rdI (ne_u hu (by decide))) (fun _ => (cm_if (cM_requests_b26 hu) (cm_bS (cM_request hu) (fun _ => (cM_requests_b26 hu)))))) (cm_xo rfl))
theorem cM_requests_b2 {ku iu : Nat} {vu : Int32} (hu : ku = 43) {t : moS} {p1 : Int32} {a2 : Int32} : M_requests_b2 (moSI t ku iu vu) p1 a2 = Option.map (fun y => moSI y ku iu vu) (M_requests_b2 t p1 a2) := by
  unfold M_requests_b2
  exact (cm_lp (u := (fun z : (Int32 × moS) => (id z.1, (fun y => moSI y ku iu vu) z.2))) (v := (fun y => moSI y ku iu vu)) rfl (fun _ => (cM_requests_s2 hu)))
theorem cM_requests {ku iu : Nat} {vu : Int32} (hu : ku = 43) {t : moS} {p1 : Int32} : M_requests (moSI t ku iu vu) p1 = Option.map (fun y => moSI y ku iu vu) (M_requests t p1) := by
  unfold M_requests
  exact (cM_requests_b2 hu)
theorem dM_forget_s6 {ku iu : Nat} {vu : Int32} (hu : ku = 43 ∨ ku = 45) {t : moS} {p1 : Int32} {a2 : Int32} : M_forget_s6 (moSI t ku iu vu) p1 a2 = Option.map (Sum.map (fun z : (Int32 × moS) => (id z.1, (fun y => moSI y ku iu vu) z.2)) (fun y => moSI y ku iu vu)) (M_forget_s6 t p1 a2) := by
  unfold M_forget_s6
  exact (cm_bT (cm_rdI (ne_v hu (by decide))) (fun _ => (cm_if (cm_bS (cm_wrZ (ne_v hu (by decide))) (fun _ => rfl)) (cm_xo (cm_bS (cm_wrI (ne_v hu (by decide))) (fun _ => rfl))))))
theorem dM_forget_b6 {ku iu : Nat} {vu : Int32} (hu : ku = 43 ∨ ku = 45) {t : moS} {p1 : Int32} {a2 : Int32} : M_forget_b6 (moSI t ku iu vu) p1 a2 = Option.map (fun y => moSI y ku iu vu) (M_forget_b6 t p1 a2) := by
  unfold M_forget_b6
  exact (cm_lp (u := (fun z : (Int32 × moS) => (id z.1, (fun y => moSI y ku iu vu) z.2))) (v := (fun y => moSI y ku iu vu)) rfl (fun _ => (dM_forget_s6 hu)))
theorem dM_forget {ku iu : Nat} {vu : Int32} (hu : ku = 43 ∨ ku = 45) {t : moS} {p1 : Int32} : M_forget (moSI t ku iu vu) p1 = Option.map (fun y => moSI y ku iu vu) (M_forget t p1) := by
  unfold M_forget
  exact (dM_forget_b6 hu)
