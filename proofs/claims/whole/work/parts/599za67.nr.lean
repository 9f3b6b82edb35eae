/-! A router that stands has no routes and nothing to tell: what keeps it, by program. -/
/-- of n routers those that stand (by f) have no routes -/
def NI (n : Nat) (f : Nat → Int32) (B : Prop) (t : moS) : Prop := t.I 39 = f ∧ (B → t.N 70 = 6 ∧ ∀ r, r < 6 → rng (t.I 70 r) 0 4) ∧ ∀ r, r < n → f r = 0 → cN t r = 0 ∧ t.I 44 r = -1
theorem if_to {t : moS} {p1 p2 : Int32} (hI : t.N 70 = 6 ∧ ∀ r, r < 6 → rng (t.I 70 r) 0 4) : aw (M_interfaceTo t p1 p2) (fun v => v = -1 ∨ v / (4 : Int32) = p1) := by
  unfold M_interfaceTo M_interfaceTo_b4
  by_cases c : ¬ p1 < 0 ∧ p1.toNatClampNeg < 6
  · have e := nI_cl c.1
    generalize p1.toNatClampNeg = r at e c
    subst e
    refine aw_lp (I := fun y => ∃ j, y = nI j ∧ 4 * r ≤ j ∧ j ≤ 4 * r + 4) ⟨4 * r, by rw [show (4 : Int32) = nI 4 from rfl, pk_mul], Nat.le_refl _, by omega⟩ fun y hy => ?_
    obtain ⟨j, rfl, h1, h2⟩ := hy
    obtain ⟨k, ek, -, hk⟩ := hI.2 r c.2
    intro z e
    unfold M_interfaceTo_s4 at e
    obtain ⟨x1, e1, e⟩ := Option.bind_eq_some_iff.mp e
    obtain ⟨-, -, e1⟩ := rdI_x e1
    rw [nI_clamp (by omega), ek] at e1
    rw [e1, show (4 : Int32) = nI 4 from rfl, pk_mul, nI_add] at e
    split at e
    · rename_i cl
      have hj : j < 4 * r + k := Nat.lt_of_not_le fun z => nI_nlt z (by omega) cl
      obtain ⟨x2, -, e⟩ := Option.bind_eq_some_iff.mp e
      split at e
      · cases e
        refine Or.inr ?_
        rw [show (4 : Int32) = nI 4 from rfl]
        have : nI j / nI 4 = nI (j / 4) := pk_div (d := 4) (by omega) (by decide) (by decide)
        rw [this]
        congr 1
        omega
      · cases e
        exact ⟨j + 1, by rw [nI_1], by omega, by omega⟩
    · cases e
      exact Or.inl rfl
  · refine aw_lp (I := fun y => True) trivial fun y _ => ?_
    intro z e
    unfold M_interfaceTo_s4 at e
    obtain ⟨x1, e1, e⟩ := Option.bind_eq_some_iff.mp e
    obtain ⟨a1, a2, -⟩ := rdI_x e1
    rw [hI.1] at a2
    exact absurd ⟨a1, a2⟩ c
theorem aw_use {α : Type} {o : Option α} {P : α → Prop} {z : α} (h : aw o P) (e : o = some z) : P z := h z e
section Nr
variable (n : Nat) (f : Nat → Int32) (B : Prop)
variable {n f B} in
theorem NI.m {t t' : moS} {W : List Nat} (h : NI n f B t) (m : mfr W t t') (d : dj [39, 44, 70, 105] W) : NI n f B t' := by
  unfold NI cN at h ⊢
  rw [m.I 39 (d.n 39), m.I 44 (d.n 44), m.I 70 (d.n 70), m.I 105 (d.n 105), m.2 70 (Or.inl (d.n 70))]
  exact h
variable {n f B} in
theorem ni_39 {t : moS} {i x : Int32} (h : NI n f B t) (e : rdI t 39 i = some x) (c : ¬ x = 0) : f i.toNatClampNeg ≠ 0 := by
  obtain ⟨-, -, e⟩ := rdI_x e
  rw [h.1] at e
  rw [← e]
  exact c
variable {n f B} in
theorem ni_wrI {t : moS} {k : Nat} {i v : Int32} (h : NI n f B t) (d : dj [39, 44, 70, 105] [k]) : aw (wrI t k i v) (NI n f B) := fun z e => by
  rw [wrI_x e]
  exact h.m (mfr.si (W := [k]) List.mem_cons_self) d
variable {n f B} in
theorem ni_wrZ {t : moS} {k : Nat} {i v : Int32} (h : NI n f B t) (d : dj [39, 44, 70, 105] [k]) : aw (wrZ t k i v) (NI n f B) := fun z e => by
  rw [wrZ_x e]
  exact h.m (mfr.si (W := [k]) List.mem_cons_self) d
variable {n f B} in
theorem ni_wrJ {t : moS} {k : Nat} {i : Int32} {v : Int64} (h : NI n f B t) (d : dj [39, 44, 70, 105] [k]) : aw (wrJ t k i v) (NI n f B) := fun z e => by
  rw [wrJ_x e]
  exact h.m (mfr.sj (W := [k]) List.mem_cons_self) d
variable {n f B} in
theorem ni_w44 {t : moS} {i v : Int32} (hf : f i.toNatClampNeg ≠ 0) (h : NI n f B t) : aw (wrI t 44 i v) (NI n f B) := fun z e => by
  rw [wrI_x e]
  refine ⟨h.1, h.2.1, fun r hr hz => ⟨(h.2.2 r hr hz).1, ?_⟩⟩
  rw [evMI, if_neg (fun y => hf (by rw [← y.2]; exact hz))]
  exact (h.2.2 r hr hz).2
variable {n f B} in
theorem ni_w105 {t : moS} {i v : Int32} (hf : f i.toNatClampNeg ≠ 0) (h : NI n f B t) : aw (wrI t 105 i v) (NI n f B) := fun z e => by
  rw [wrI_x e]
  refine ⟨h.1, h.2.1, fun r hr hz => ⟨?_, (h.2.2 r hr hz).2⟩⟩
  unfold cN
  rw [evMI, if_neg (fun y => hf (by rw [← y.2]; exact hz))]
  exact (h.2.2 r hr hz).1
variable {n f B} in
theorem ni_s {t : moS} {k : Nat} {v : Int32} (h : NI n f B t) (d : dj [39, 44, 70, 105] [k]) : NI n f B (moSS t k v) := h.m (mfr.ss (W := [k]) List.mem_cons_self) d
variable {n f B} in
theorem ni_z {t : moS} {k : Nat} {v : Int64} (h : NI n f B t) (d : dj [39, 44, 70, 105] [k]) : NI n f B (moSZ t k v) := h.m (mfr.sz (W := [k]) List.mem_cons_self) d
variable {n f B} in
theorem ni_f {t : moS} {W : List Nat} {o : Option moS} (g : aw o (mfr W t)) (h : NI n f B t) (d : dj [39, 44, 70, 105] W) : aw o (NI n f B) := fun z e => h.m (g z e) d
variable {n f B} in
theorem ni_f2 {α : Type} {t : moS} {W : List Nat} {o : Option (α × moS)} (g : aw o (fun z => mfr W t z.2)) (h : NI n f B t) (d : dj [39, 44, 70, 105] W) : aw o (fun z => NI n f B z.2) := fun z e => h.m (g z e) d
theorem nM_settle_b89 {t : moS} {p1 : Int32} {a2 : Int32} (h : (NI n f B) t) : aw (M_settle_b89 t p1 a2) (Sum.elim (fun z => (NI n f B) z.2) (NI n f B)) := by
  unfold M_settle_b89
  exact (aw_some (by first | assumption | trivial | exact True.intro))
theorem nM_markChanged {t : moS} {p1 : Int32} {p2 : Int32} (hf : f (p1).toNatClampNeg ≠ 0) (h : (NI n f B) t) : aw (M_markChanged t p1 p2) (NI n f B) := by
  unfold M_markChanged
  exact (aw_bind (ni_wrZ (by assumption) rfl) (fun _ h => (aw_bind aw_t (fun _ h => (aw_bind (ni_wrI (by assumption) rfl) (fun _ h => (aw_bind aw_t (fun _ h => (aw_if (aw_bind aw_t (fun _ h => (aw_bind (ni_w44 (by assumption) (by assumption)) (fun _ h => (aw_some (by first | assumption | trivial | exact True.intro)))))) (aw_some (by first | assumption | trivial | exact True.intro)))))))))))
theorem nM_die {t : moS} {p1 : Int32} {p2 : Int32} (hf : f (p1).toNatClampNeg ≠ 0) (h : (NI n f B) t) : aw (M_die t p1 p2) (NI n f B) := by
  unfold M_die
  exact (aw_bind aw_t (fun _ h => (aw_if (aw_some (by first | assumption | trivial | exact True.intro)) (aw_bind (ni_wrI (by assumption) rfl) (fun _ h => (aw_bind aw_t (fun _ h => (aw_bind (ni_wrI (by assumption) rfl) (fun _ h => (aw_bind (nM_markChanged n f B (by assumption) (by assumption)) (fun _ h => (aw_some (by first | assumption | trivial | exact True.intro)))))))))))))
theorem nM_forsake {t : moS} {p1 : Int32} {p2 : Int32} (hf : f (p1).toNatClampNeg ≠ 0) (h : (NI n f B) t) : aw (M_forsake t p1 p2) (NI n f B) := by
  unfold M_forsake
  exact (aw_bind (ni_wrI (by assumption) rfl) (fun _ h => (aw_bind (ni_wrI (by assumption) rfl) (fun _ h => (aw_bind (ni_wrI (by assumption) rfl) (fun _ h => (aw_bind (ni_wrI (by assumption) rfl) (fun _ h => (aw_bind (nM_die n f B (by assumption) (by assumption)) (fun _ h => (aw_some (by first | assumption | trivial | exact True.intro))))))))))))
theorem nM_become_b74 {t : moS} {p1 : Int32} {p2 : Int32} {u0 : Int32} (hf : f (p1).toNatClampNeg ≠ 0) (h : (NI n f B) t) : aw (M_become_b74 t p1 p2 u0) (NI n f B) := by
  unfold M_become_b74
  exact (aw_bind (ni_wrI (by assumption) rfl) (fun _ h => (aw_bind (ni_wrI (by assumption) rfl) (fun _ h => (aw_bind (ni_wrI (by assumption) rfl) (fun _ h => (aw_bind (ni_wrI (by assumption) rfl) (fun _ h => (aw_bind (ni_wrJ (by assumption) rfl) (fun _ h => (aw_bind (ni_wrJ (by assumption) rfl) (fun _ h => (aw_bind (ni_wrI (by assumption) rfl) (fun _ h => (aw_bind (ni_wrI (by assumption) rfl) (fun _ h => (aw_if (aw_some (by first | assumption | trivial | exact True.intro)) (aw_bind (nM_markChanged n f B (by assumption) (by assumption)) (fun _ h => (aw_some (by first | assumption | trivial | exact True.intro)))))))))))))))))))))
theorem nM_become_b73 {t : moS} {p1 : Int32} {p2 : Int32} (hf : f (p1).toNatClampNeg ≠ 0) (h : (NI n f B) t) : aw (M_become_b73 t p1 p2) (NI n f B) := by
  unfold M_become_b73
  exact (nM_become_b74 n f B (by assumption) (by assumption))
theorem nM_become_b69 {t : moS} {p1 : Int32} {p2 : Int32} (hf : f (p1).toNatClampNeg ≠ 0) (h : (NI n f B) t) : aw (M_become_b69 t p1 p2) (NI n f B) := by
  unfold M_become_b69
  exact (nM_become_b74 n f B (by assumption) (by assumption))
theorem nM_become {t : moS} {p1 : Int32} {p2 : Int32} (hf : f (p1).toNatClampNeg ≠ 0) (h : (NI n f B) t) : aw (M_become t p1 p2) (NI n f B) := by
  unfold M_become
  exact (aw_bind aw_t (fun _ h => (aw_if (aw_bind aw_t (fun _ h => (aw_if (aw_bind aw_t (fun _ h => (aw_if (aw_bind aw_t (fun _ h => (aw_if (aw_if (aw_bind aw_t (fun _ h => (aw_if (nM_become_b73 n f B (by assumption) (by assumption)) (nM_become_b69 n f B (by assumption) (by assumption))))) (nM_become_b73 n f B (by assumption) (by assumption))) (nM_become_b69 n f B (by assumption) (by assumption))))) (nM_become_b69 n f B (by assumption) (by assumption))))) (nM_become_b69 n f B (by assumption) (by assumption))))) (nM_become_b69 n f B (by assumption) (by assumption)))))
theorem nM_settle_b172 {t : moS} {p1 : Int32} {a2 : Int32} (h : (NI n f B) t) : aw (M_settle_b172 t p1 a2) (Sum.elim (fun z => (NI n f B) z.2) (NI n f B)) := by
  unfold M_settle_b172
  exact (aw_some (by first | assumption | trivial | exact True.intro))
theorem nM_insert {t : moS} {p1 : Int32} {p2 : Int32} {p3 : Int64} {p5 : Int64} {p7 : Int32} (hf : f (p1).toNatClampNeg ≠ 0) (h : (NI n f B) t) : aw (M_insert t p1 p2 p3 p5 p7) (fun z => (NI n f B) z.2) := by
  unfold M_insert
  exact (aw_bind aw_t (fun _ h => (aw_bind aw_t (fun _ h => (aw_bind (ni_w105 (by assumption) (by assumption)) (fun _ h => (ni_f2 (fM_insert_b24 (W := wM_insert_b24) rfl mfr.rf) (by assumption) rfl)))))))
theorem nM_come {t : moS} {p1 : Int32} {p2 : Int32} {p3 : Int64} {p5 : Int64} {p7 : Int32} (hf : f (p1).toNatClampNeg ≠ 0) (h : (NI n f B) t) : aw (M_come t p1 p2 p3 p5 p7) (NI n f B) := by
  unfold M_come
  exact (aw_bind aw_t (fun _ h => (aw_if (aw_bn2 (ni_f2 (fM_isDue (W := wM_isDue) rfl mfr.rf) (by assumption) rfl) (fun _ _ h => (aw_if (aw_some (by first | assumption | trivial | exact True.intro)) (aw_bn2 (nM_insert n f B (by assumption) (by assumption)) (fun _ _ h => (aw_bind (ni_wrI (by assumption) rfl) (fun _ h => (aw_bind (ni_wrI (by assumption) rfl) (fun _ h => (aw_bind (ni_wrI (by assumption) rfl) (fun _ h => (aw_bind (ni_wrI (by assumption) rfl) (fun _ h => (aw_bind (nM_markChanged n f B (by assumption) (by assumption)) (fun _ h => (aw_some (by first | assumption | trivial | exact True.intro))))))))))))))))) (aw_some (by first | assumption | trivial | exact True.intro)))))
theorem nM_settle_s183 {t : moS} {p1 : Int32} {a2 : Int32} (hf : f (p1).toNatClampNeg ≠ 0) (h : (NI n f B) t) : aw (M_settle_s183 t p1 a2) (Sum.elim (fun z => (NI n f B) z.2) (NI n f B)) := by
  unfold M_settle_s183
  exact (aw_bind aw_t (fun _ h => (aw_if (aw_bind aw_t (fun _ h => (aw_bind aw_t (fun _ h => (aw_bind aw_t (fun _ h => (aw_bind aw_t (fun _ h => (aw_bind (nM_come n f B (by assumption) (by assumption)) (fun _ h => (aw_some (by first | assumption | trivial | exact True.intro)))))))))))) (aw_xo (aw_some (by first | assumption | trivial | exact True.intro))))))
theorem nM_settle_b183 {t : moS} {p1 : Int32} {a2 : Int32} (hf : f (p1).toNatClampNeg ≠ 0) (h : (NI n f B) t) : aw (M_settle_b183 t p1 a2) (NI n f B) := by
  unfold M_settle_b183
  refine aw_lp (I := (fun z => (NI n f B) z.2)) ?_ ?_
  · exact h
  · intro y hy
    exact (nM_settle_s183 n f B (by assumption) hy)
theorem nM_settle_s100 {t : moS} {p1 : Int32} {a2 : Int32} (hf : f (p1).toNatClampNeg ≠ 0) (h : (NI n f B) t) : aw (M_settle_s100 t p1 a2) (Sum.elim (fun z => (NI n f B) z.2) (NI n f B)) := by
  unfold M_settle_s100
  exact (aw_bind aw_t (fun _ h => (aw_if (aw_bind aw_t (fun _ h => (aw_if (nM_settle_b172 n f B (by assumption)) (aw_bind aw_t (fun _ h => (aw_bind aw_t (fun _ h => (aw_bind aw_t (fun _ h => (aw_bind aw_t (fun _ h => (aw_bind aw_t (fun _ h => (aw_bind (nM_come n f B (by assumption) (by assumption)) (fun _ h => (nM_settle_b172 n f B (by assumption))))))))))))))))) (aw_xo (nM_settle_b183 n f B (by assumption) (by assumption))))))
theorem nM_settle_b100 {t : moS} {p1 : Int32} {a2 : Int32} (hf : f (p1).toNatClampNeg ≠ 0) (h : (NI n f B) t) : aw (M_settle_b100 t p1 a2) (NI n f B) := by
  unfold M_settle_b100
  refine aw_lp (I := (fun z => (NI n f B) z.2)) ?_ ?_
  · exact h
  · intro y hy
    exact (nM_settle_s100 n f B (by assumption) hy)
theorem nM_settle_s16 {t : moS} {p1 : Int32} {a2 : Int32} (hf : f (p1).toNatClampNeg ≠ 0) (h : (NI n f B) t) : aw (M_settle_s16 t p1 a2) (Sum.elim (fun z => (NI n f B) z.2) (NI n f B)) := by
  unfold M_settle_s16
  exact (aw_bind aw_t (fun _ h => (aw_if (aw_bind aw_t (fun _ h => (aw_bind aw_t (fun _ h => (aw_bind aw_t (fun _ h => (aw_bind aw_t (fun _ h => (aw_bn2 (ni_f2 (fM_isDue (W := wM_isDue) rfl mfr.rf) (by assumption) rfl) (fun _ _ h => (aw_if (aw_bind aw_t (fun _ h => (aw_if (nM_settle_b89 n f B (by assumption)) (aw_bind (nM_forsake n f B (by assumption) (by assumption)) (fun _ h => (nM_settle_b89 n f B (by assumption))))))) (aw_bind (nM_become n f B (by assumption) (by assumption)) (fun _ h => (nM_settle_b89 n f B (by assumption))))))))))))))) (aw_xo (nM_settle_b100 n f B (by assumption) (by assumption))))))
theorem nM_settle_b16 {t : moS} {p1 : Int32} {a2 : Int32} (hf : f (p1).toNatClampNeg ≠ 0) (h : (NI n f B) t) : aw (M_settle_b16 t p1 a2) (NI n f B) := by
  unfold M_settle_b16
  refine aw_lp (I := (fun z => (NI n f B) z.2)) ?_ ?_
  · exact h
  · intro y hy
    exact (nM_settle_s16 n f B (by assumption) hy)
theorem nM_settle {t : moS} {p1 : Int32} (h : NI n f B t) : aw (M_settle t p1) (NI n f B) := by
  unfold M_settle
  intro z e
  obtain ⟨x1, e1, e⟩ := Option.bind_eq_some_iff.mp e
  split at e
  · cases e
    exact h
  · rename_i c
    exact nM_settle_b16 n f B (ni_39 h e1 c) h z e
theorem nM_link_b197 {t : moS} {p1 : Int32} {p2 : Int32} {a4 : Int32} (h : (NI n f B) t) : aw (M_link_b197 t p1 p2 a4) (Sum.elim (fun z => (NI n f B) z.2) (fun z => (NI n f B) z.2)) := by
  unfold M_link_b197
  exact (aw_some (by first | assumption | trivial | exact True.intro))
theorem nM_link_b185 {t : moS} {p1 : Int32} {p2 : Int32} {a4 : Int32} {a5 : Int32} {a6 : Int32} (h : (NI n f B) t) : aw (M_link_b185 t p1 p2 a4 a5 a6) (Sum.elim (fun z => (NI n f B) z.2) (Sum.elim (fun z => (NI n f B) z.2) (fun z => (NI n f B) z.2))) := by
  unfold M_link_b185
  exact (aw_some (by first | assumption | trivial | exact True.intro))
theorem nM_link_b191 {t : moS} {p1 : Int32} {p2 : Int32} {a4 : Int32} (h : (NI n f B) t) : aw (M_link_b191 t p1 p2 a4) (Sum.elim (fun z => (NI n f B) z.2) (fun z => (NI n f B) z.2)) := by
  unfold M_link_b191
  exact (aw_bind (nM_settle n f B (by assumption)) (fun _ h => (nM_link_b197 n f B (by assumption))))
theorem nM_link_s131 {t : moS} {p1 : Int32} {p2 : Int32} {a4 : Int32} {a5 : Int32} {a6 : Int32} (hf : f (a4).toNatClampNeg ≠ 0) (h : (NI n f B) t) : aw (M_link_s131 t p1 p2 a4 a5 a6) (Sum.elim (fun z => (NI n f B) z.2) (Sum.elim (fun z => (NI n f B) z.2) (fun z => (NI n f B) z.2))) := by
  unfold M_link_s131
  exact (aw_bind aw_t (fun _ h => (aw_if (aw_if (aw_bind aw_t (fun _ h => (aw_if (aw_bind aw_t (fun _ h => (aw_if (aw_bind (nM_die n f B (by assumption) (by assumption)) (fun _ h => (nM_link_b185 n f B (by assumption)))) (nM_link_b185 n f B (by assumption))))) (nM_link_b185 n f B (by assumption))))) (aw_xo (nM_link_b191 n f B (by assumption)))) (aw_xo (nM_link_b191 n f B (by assumption))))))
theorem nM_link_b131 {t : moS} {p1 : Int32} {p2 : Int32} {a4 : Int32} {a5 : Int32} {a6 : Int32} (hf : f (a4).toNatClampNeg ≠ 0) (h : (NI n f B) t) : aw (M_link_b131 t p1 p2 a4 a5 a6) (Sum.elim (fun z => (NI n f B) z.2) (fun z => (NI n f B) z.2)) := by
  unfold M_link_b131
  refine aw_lp (I := (fun z => (NI n f B) z.2)) ?_ ?_
  · exact h
  · intro y hy
    exact (nM_link_s131 n f B (by assumption) hy)
theorem nM_link_b112 {t : moS} {p1 p2 a4 u0 : Int32} (hu : u0 ≠ -1 → f a4.toNatClampNeg ≠ 0) (h : NI n f B t) : aw (M_link_b112 t p1 p2 a4 u0) (Sum.elim (fun z => NI n f B z.2) (fun z => NI n f B z.2)) := by
  unfold M_link_b112
  by_cases c : u0 = -1
  · rw [if_pos c]
    exact nM_link_b197 n f B h
  · rw [if_neg c]
    exact nM_link_b131 n f B (hu c) h
theorem nM_link_s82 {t : moS} {p1 p2 a4 : Int32} (h : NI n f B t) : aw (M_link_s82 t p1 p2 a4) (Sum.elim (fun z => NI n f B z.2) (fun z => NI n f B z.2)) := by
  unfold M_link_s82
  refine aw_if ?_ (aw_xo (ni_f2 (fM_link_b206 (W := wM_link_b206) rfl mfr.rf) h rfl))
  intro z e
  obtain ⟨x1, e1, e⟩ := Option.bind_eq_some_iff.mp e
  split at e
  · exact nM_link_b112 n f B (fun c => absurd rfl c) h z e
  · rename_i c
    obtain ⟨x2, -, e⟩ := Option.bind_eq_some_iff.mp e
    exact nM_link_b112 n f B (fun _ => ni_39 h e1 c) h z e
theorem nM_link_b82 {t : moS} {p1 : Int32} {p2 : Int32} {a4 : Int32} (h : (NI n f B) t) : aw (M_link_b82 t p1 p2 a4) (fun z => (NI n f B) z.2) := by
  unfold M_link_b82
  refine aw_lp (I := (fun z => (NI n f B) z.2)) ?_ ?_
  · exact h
  · intro y hy
    exact (nM_link_s82 n f B hy)
theorem nM_link_b79 {t : moS} {p1 : Int32} {p2 : Int32} (h : (NI n f B) t) : aw (M_link_b79 t p1 p2) (fun z => (NI n f B) z.2) := by
  unfold M_link_b79
  exact (nM_link_b82 n f B (by assumption))
theorem nM_link_s38 {t : moS} {p1 : Int32} {p2 : Int32} {a3 : Int32} (h : (NI n f B) t) : aw (M_link_s38 t p1 p2 a3) (Sum.elim (fun z => (NI n f B) z.2) (fun z => (NI n f B) z.2)) := by
  unfold M_link_s38
  exact (aw_if (aw_if (aw_bind aw_t (fun _ h => (aw_bind aw_t (fun _ h => (aw_if (aw_bind (ni_f (fM_takeOff (W := wM_takeOff) rfl mfr.rf) (by assumption) rfl) (fun _ h => (aw_some (by first | assumption | trivial | exact True.intro)))) (aw_some (by first | assumption | trivial | exact True.intro))))))) (aw_xo (nM_link_b79 n f B (by assumption)))) (aw_xo (nM_link_b79 n f B (by assumption))))
theorem nM_link_b38 {t : moS} {p1 : Int32} {p2 : Int32} {a3 : Int32} (h : (NI n f B) t) : aw (M_link_b38 t p1 p2 a3) (fun z => (NI n f B) z.2) := by
  unfold M_link_b38
  refine aw_lp (I := (fun z => (NI n f B) z.2)) ?_ ?_
  · exact h
  · intro y hy
    exact (nM_link_s38 n f B hy)
theorem nM_link {t : moS} {p1 : Int32} {p2 : Int32} (h : (NI n f B) t) : aw (M_link t p1 p2) (fun z => (NI n f B) z.2) := by
  unfold M_link
  exact (aw_let (P := (NI n f B)) (ni_s (by assumption) rfl) (fun _ h => (aw_if (aw_some (by first | assumption | trivial | exact True.intro)) (aw_if (aw_bind aw_t (fun _ h => (aw_if (aw_some (by first | assumption | trivial | exact True.intro)) (aw_bind (ni_wrZ (by assumption) rfl) (fun _ h => (nM_link_b38 n f B (by assumption))))))) (aw_some (by first | assumption | trivial | exact True.intro))))))
theorem nM_arrive_b139 {t : moS} {p1 : Int32} {a2 : Int32} {a3 : Int32} {a4 : Int32} {a5 : Int32} {a6 : Int32} {a7 : Int64} {a9 : Int64} {a11 : Int64} {a13 : Int64} {a15 : Int32} {a16 : Int32} {a17 : Int32} {u1 : Int32} {u2 : Int32} (h : (NI n f B) t) : aw (M_arrive_b139 t p1 a2 a3 a4 a5 a6 a7 a9 a11 a13 a15 a16 a17 u1 u2) (Sum.elim (fun z => (NI n f B) z.2) (NI n f B)) := by
  unfold M_arrive_b139
  exact (aw_bind (ni_wrI (by assumption) rfl) (fun _ h => (aw_some (by first | assumption | trivial | exact True.intro))))
theorem nM_arrive_b295 {t : moS} {a3 : Int32} {a4 : Int32} {a5 : Int32} {a6 : Int32} {a7 : Int64} {a9 : Int64} {a11 : Int64} {a13 : Int64} {a15 : Int32} {a16 : Int32} {a17 : Int32} (h : (NI n f B) t) : aw (M_arrive_b295 t a3 a4 a5 a6 a7 a9 a11 a13 a15 a16 a17) (Sum.elim (fun z => (NI n f B) z.2) (NI n f B)) := by
  unfold M_arrive_b295
  exact (aw_some (by first | assumption | trivial | exact True.intro))
theorem nM_takeAll_b499 {t : moS} {p1 : Int32} {p2 : Int32} {p3 : Int64} {p5 : Int64} {a7 : Int32} {a8 : Int32} {a9 : Int32} {a10 : Int64} {a12 : Int64} {a14 : Int32} (h : (NI n f B) t) : aw (M_takeAll_b499 t p1 p2 p3 p5 a7 a8 a9 a10 a12 a14) (Sum.elim (fun z => (fun z => (fun z => (NI n f B) z.2) z.2) z.2) (NI n f B)) := by
  unfold M_takeAll_b499
  exact (aw_some (by first | assumption | trivial | exact True.intro))
theorem nM_learn_b79 {t : moS} {p1 : Int32} {p2 : Int32} {p3 : Int32} {p4 : Int32} {p5 : Int32} {p6 : Int64} {p8 : Int64} {a12 : Int32} {u0 : Int32} {u1 : Int32} (h : (NI n f B) t) : aw (M_learn_b79 t p1 p2 p3 p4 p5 p6 p8 a12 u0 u1) (Sum.elim (fun z => (fun z => (NI n f B) z.2) z.2) (NI n f B)) := by
  unfold M_learn_b79
  exact (aw_some (by first | assumption | trivial | exact True.intro))
theorem nM_takeOver_b149 {t : moS} {p1 : Int32} {p3 : Int32} {a10 : Int32} {u1 : Int32} {u2 : Int32} (hf : f (p1).toNatClampNeg ≠ 0) (h : (NI n f B) t) : aw (M_takeOver_b149 t p1 p3 a10 u1 u2) (NI n f B) := by
  unfold M_takeOver_b149
  exact (aw_bind (ni_wrI (by assumption) rfl) (fun _ h => (aw_bind (ni_wrI (by assumption) rfl) (fun _ h => (aw_bind aw_t (fun _ h => (aw_bind (ni_wrI (by assumption) rfl) (fun _ h => (aw_if (aw_some (by first | assumption | trivial | exact True.intro)) (aw_bind (nM_markChanged n f B (by assumption) (by assumption)) (fun _ h => (aw_some (by first | assumption | trivial | exact True.intro)))))))))))))
theorem nM_takeOver_b54 {t : moS} {p1 : Int32} {p2 : Int32} {p3 : Int32} {p4 : Int32} {p5 : Int32} {p6 : Int64} {p8 : Int64} {u0 : Int32} (hf : f (p1).toNatClampNeg ≠ 0) (h : (NI n f B) t) : aw (M_takeOver_b54 t p1 p2 p3 p4 p5 p6 p8 u0) (NI n f B) := by
  unfold M_takeOver_b54
  exact (aw_bind (ni_wrI (by assumption) rfl) (fun _ h => (aw_bind (ni_wrI (by assumption) rfl) (fun _ h => (aw_bind (ni_wrJ (by assumption) rfl) (fun _ h => (aw_bind (ni_wrJ (by assumption) rfl) (fun _ h => (aw_bind (ni_wrI (by assumption) rfl) (fun _ h => (aw_bind (ni_wrI (by assumption) rfl) (fun _ h => (aw_bind (ni_wrJ (by assumption) rfl) (fun _ h => (aw_bind (ni_wrJ (by assumption) rfl) (fun _ h => (aw_if (aw_bind aw_t (fun _ h => (nM_takeOver_b149 n f B (by assumption) (by assumption)))) (nM_takeOver_b149 n f B (by assumption) (by assumption)))))))))))))))))))
theorem nM_takeOver_b49 {t : moS} {p1 : Int32} {p2 : Int32} {p3 : Int32} {p4 : Int32} {p5 : Int32} {p6 : Int64} {p8 : Int64} (hf : f (p1).toNatClampNeg ≠ 0) (h : (NI n f B) t) : aw (M_takeOver_b49 t p1 p2 p3 p4 p5 p6 p8) (NI n f B) := by
  unfold M_takeOver_b49
  exact (nM_takeOver_b54 n f B (by assumption) (by assumption))
theorem nM_takeOver {t : moS} {p1 : Int32} {p2 : Int32} {p3 : Int32} {p4 : Int32} {p5 : Int32} {p6 : Int64} {p8 : Int64} (hf : f (p1).toNatClampNeg ≠ 0) (h : (NI n f B) t) : aw (M_takeOver t p1 p2 p3 p4 p5 p6 p8) (NI n f B) := by
  unfold M_takeOver
  exact (aw_bind aw_t (fun _ h => (aw_if (aw_bind aw_t (fun _ h => (aw_if (aw_bind aw_t (fun _ h => (aw_if (aw_bind aw_t (fun _ h => (aw_if (nM_takeOver_b54 n f B (by assumption) (by assumption)) (nM_takeOver_b49 n f B (by assumption) (by assumption))))) (nM_takeOver_b49 n f B (by assumption) (by assumption))))) (nM_takeOver_b49 n f B (by assumption) (by assumption))))) (nM_takeOver_b49 n f B (by assumption) (by assumption)))))
theorem nM_learn_s44 {t : moS} {p1 : Int32} {p2 : Int32} {p3 : Int32} {p4 : Int32} {p5 : Int32} {p6 : Int64} {p8 : Int64} {a11 : Int32} {a12 : Int32} (hf : f (p1).toNatClampNeg ≠ 0) (h : (NI n f B) t) : aw (M_learn_s44 t p1 p2 p3 p4 p5 p6 p8 a11 a12) (Sum.elim (fun z => (fun z => (NI n f B) z.2) z.2) (NI n f B)) := by
  unfold M_learn_s44
  exact (aw_bind aw_t (fun _ h => (aw_if (aw_bind aw_t (fun _ h => (aw_if (nM_learn_b79 n f B (by assumption)) (nM_learn_b79 n f B (by assumption))))) (aw_xo (aw_if (aw_bn2 (nM_insert n f B (by assumption) (by assumption)) (fun _ _ h => (aw_bind (ni_wrI (by assumption) rfl) (fun _ h => (aw_bind (ni_wrI (by assumption) rfl) (fun _ h => (aw_bind (ni_wrI (by assumption) rfl) (fun _ h => (aw_bind (nM_takeOver n f B (by assumption) (by assumption)) (fun _ h => (aw_some (by first | assumption | trivial | exact True.intro)))))))))))) (aw_bind (ni_f (fM_tally (W := wM_tally) rfl mfr.rf) (by assumption) rfl) (fun _ h => (aw_some (by first | assumption | trivial | exact True.intro)))))))))
theorem nM_learn_b44 {t : moS} {p1 : Int32} {p2 : Int32} {p3 : Int32} {p4 : Int32} {p5 : Int32} {p6 : Int64} {p8 : Int64} {a11 : Int32} {a12 : Int32} (hf : f (p1).toNatClampNeg ≠ 0) (h : (NI n f B) t) : aw (M_learn_b44 t p1 p2 p3 p4 p5 p6 p8 a11 a12) (NI n f B) := by
  unfold M_learn_b44
  refine aw_lp (I := (fun z => (fun z => (NI n f B) z.2) z.2)) ?_ ?_
  · exact h
  · intro y hy
    exact (nM_learn_s44 n f B (by assumption) hy)
theorem nM_learn_b368 {t : moS} {p1 : Int32} {p2 : Int32} {p4 : Int32} {p5 : Int32} {p6 : Int64} {p8 : Int64} {a10 : Int32} {u0 : Int32} (hf : f (p1).toNatClampNeg ≠ 0) (h : (NI n f B) t) : aw (M_learn_b368 t p1 p2 p4 p5 p6 p8 a10 u0) (NI n f B) := by
  unfold M_learn_b368
  exact (aw_if (aw_some (by first | assumption | trivial | exact True.intro)) (aw_bind (nM_takeOver n f B (by assumption) (by assumption)) (fun _ h => (aw_some (by first | assumption | trivial | exact True.intro)))))
theorem nM_learn_b367 {t : moS} {p1 : Int32} {p2 : Int32} {p4 : Int32} {p5 : Int32} {p6 : Int64} {p8 : Int64} {a10 : Int32} (hf : f (p1).toNatClampNeg ≠ 0) (h : (NI n f B) t) : aw (M_learn_b367 t p1 p2 p4 p5 p6 p8 a10) (NI n f B) := by
  unfold M_learn_b367
  exact (nM_learn_b368 n f B (by assumption) (by assumption))
theorem nM_learn_b455 {t : moS} {p1 : Int32} {p2 : Int32} {p4 : Int32} {p5 : Int32} {p6 : Int64} {p8 : Int64} {a10 : Int32} (hf : f (p1).toNatClampNeg ≠ 0) (h : (NI n f B) t) : aw (M_learn_b455 t p1 p2 p4 p5 p6 p8 a10) (NI n f B) := by
  unfold M_learn_b455
  exact (aw_bind (nM_takeOver n f B (by assumption) (by assumption)) (fun _ h => (aw_some (by first | assumption | trivial | exact True.intro))))
theorem nM_learn_b433 {t : moS} {p1 : Int32} {p2 : Int32} {p4 : Int32} {p5 : Int32} {p6 : Int64} {p8 : Int64} {a10 : Int32} {a12 : Int32} {a13 : Int32} {a14 : Int32} (hf : f (p1).toNatClampNeg ≠ 0) (h : (NI n f B) t) : aw (M_learn_b433 t p1 p2 p4 p5 p6 p8 a10 a12 a13 a14) (NI n f B) := by
  unfold M_learn_b433
  exact (aw_if (aw_if (aw_some (by first | assumption | trivial | exact True.intro)) (aw_if (nM_learn_b455 n f B (by assumption) (by assumption)) (aw_if (aw_some (by first | assumption | trivial | exact True.intro)) (nM_learn_b455 n f B (by assumption) (by assumption))))) (nM_learn_b455 n f B (by assumption) (by assumption)))
theorem nM_learn_b392 {t : moS} {p1 : Int32} {p2 : Int32} {p4 : Int32} {p5 : Int32} {p6 : Int64} {p8 : Int64} {a10 : Int32} {a11 : Int32} {a12 : Int32} {a13 : Int32} {a14 : Int32} (hf : f (p1).toNatClampNeg ≠ 0) (h : (NI n f B) t) : aw (M_learn_b392 t p1 p2 p4 p5 p6 p8 a10 a11 a12 a13 a14) (NI n f B) := by
  unfold M_learn_b392
  exact (aw_if (nM_learn_b433 n f B (by assumption) (by assumption)) (aw_if (aw_if (aw_bind (ni_wrI (by assumption) rfl) (fun _ h => (aw_bind aw_t (fun _ h => (aw_bind (ni_wrI (by assumption) rfl) (fun _ h => (nM_learn_b433 n f B (by assumption) (by assumption)))))))) (nM_learn_b433 n f B (by assumption) (by assumption))) (nM_learn_b433 n f B (by assumption) (by assumption))))
theorem nM_learn_b306 {t : moS} {p1 : Int32} {p2 : Int32} {p4 : Int32} {p5 : Int32} {p6 : Int64} {p8 : Int64} {a10 : Int32} {a11 : Int32} {a12 : Int32} {a13 : Int32} {u0 : Int32} (hf : f (p1).toNatClampNeg ≠ 0) (h : (NI n f B) t) : aw (M_learn_b306 t p1 p2 p4 p5 p6 p8 a10 a11 a12 a13 u0) (NI n f B) := by
  unfold M_learn_b306
  exact (aw_if (aw_if (aw_bind aw_t (fun _ h => (aw_if (aw_if (aw_bind aw_t (fun _ h => (aw_bind aw_t (fun _ h => (aw_if (nM_learn_b367 n f B (by assumption) (by assumption)) (nM_learn_b368 n f B (by assumption) (by assumption))))))) (nM_learn_b367 n f B (by assumption) (by assumption))) (nM_learn_b367 n f B (by assumption) (by assumption))))) (nM_learn_b392 n f B (by assumption) (by assumption))) (nM_learn_b392 n f B (by assumption) (by assumption)))
theorem nM_learn_b301 {t : moS} {p1 : Int32} {p2 : Int32} {p4 : Int32} {p5 : Int32} {p6 : Int64} {p8 : Int64} {a10 : Int32} {a11 : Int32} {a12 : Int32} {a13 : Int32} (hf : f (p1).toNatClampNeg ≠ 0) (h : (NI n f B) t) : aw (M_learn_b301 t p1 p2 p4 p5 p6 p8 a10 a11 a12 a13) (NI n f B) := by
  unfold M_learn_b301
  exact (nM_learn_b306 n f B (by assumption) (by assumption))
theorem nM_learn_b257 {t : moS} {p1 : Int32} {p2 : Int32} {p4 : Int32} {p5 : Int32} {p6 : Int64} {p8 : Int64} {a10 : Int32} {a11 : Int32} {a12 : Int32} {u0 : Int32} (hf : f (p1).toNatClampNeg ≠ 0) (h : (NI n f B) t) : aw (M_learn_b257 t p1 p2 p4 p5 p6 p8 a10 a11 a12 u0) (NI n f B) := by
  unfold M_learn_b257
  exact (aw_bind aw_t (fun _ h => (aw_if (aw_bind aw_t (fun _ h => (aw_if (aw_bind aw_t (fun _ h => (aw_if (nM_learn_b306 n f B (by assumption) (by assumption)) (nM_learn_b301 n f B (by assumption) (by assumption))))) (nM_learn_b301 n f B (by assumption) (by assumption))))) (nM_learn_b301 n f B (by assumption) (by assumption)))))
theorem nM_learn_b238 {t : moS} {p1 : Int32} {p2 : Int32} {p4 : Int32} {p5 : Int32} {p6 : Int64} {p8 : Int64} {a10 : Int32} {a11 : Int32} {u0 : Int32} (hf : f (p1).toNatClampNeg ≠ 0) (h : (NI n f B) t) : aw (M_learn_b238 t p1 p2 p4 p5 p6 p8 a10 a11 u0) (NI n f B) := by
  unfold M_learn_b238
  exact (aw_bind aw_t (fun _ h => (aw_if (nM_learn_b257 n f B (by assumption) (by assumption)) (nM_learn_b257 n f B (by assumption) (by assumption)))))
theorem nM_learn_b219 {t : moS} {p1 : Int32} {p2 : Int32} {p4 : Int32} {p5 : Int32} {p6 : Int64} {p8 : Int64} {a10 : Int32} {u0 : Int32} (hf : f (p1).toNatClampNeg ≠ 0) (h : (NI n f B) t) : aw (M_learn_b219 t p1 p2 p4 p5 p6 p8 a10 u0) (NI n f B) := by
  unfold M_learn_b219
  exact (aw_bind aw_t (fun _ h => (aw_if (nM_learn_b238 n f B (by assumption) (by assumption)) (nM_learn_b238 n f B (by assumption) (by assumption)))))
theorem nM_learn_b218 {t : moS} {p1 : Int32} {p2 : Int32} {p4 : Int32} {p5 : Int32} {p6 : Int64} {p8 : Int64} {a10 : Int32} (hf : f (p1).toNatClampNeg ≠ 0) (h : (NI n f B) t) : aw (M_learn_b218 t p1 p2 p4 p5 p6 p8 a10) (NI n f B) := by
  unfold M_learn_b218
  exact (nM_learn_b219 n f B (by assumption) (by assumption))
theorem nM_learn {t : moS} {p1 : Int32} {p2 : Int32} {p3 : Int32} {p4 : Int32} {p5 : Int32} {p6 : Int64} {p8 : Int64} (hf : f (p1).toNatClampNeg ≠ 0) (h : (NI n f B) t) : aw (M_learn t p1 p2 p3 p4 p5 p6 p8) (NI n f B) := by
  unfold M_learn
  exact (aw_bind aw_t (fun _ h => (aw_if (aw_if (aw_some (by first | assumption | trivial | exact True.intro)) (nM_learn_b44 n f B (by assumption) (by assumption))) (aw_bind aw_t (fun _ h => (aw_if (aw_bind aw_t (fun _ h => (aw_if (aw_bind aw_t (fun _ h => (aw_if (aw_bind aw_t (fun _ h => (aw_if (nM_learn_b219 n f B (by assumption) (by assumption)) (nM_learn_b218 n f B (by assumption) (by assumption))))) (nM_learn_b218 n f B (by assumption) (by assumption))))) (nM_learn_b218 n f B (by assumption) (by assumption))))) (aw_some (by first | assumption | trivial | exact True.intro))))))))
theorem nM_takeAll_b491 {t : moS} {p1 : Int32} {p2 : Int32} {p3 : Int64} {p5 : Int64} {a7 : Int32} {a8 : Int32} {a9 : Int32} {a10 : Int64} {a12 : Int64} {a14 : Int32} {a21 : Int32} {u1 : Int32} {u2 : Int32} {u3 : Int32} {u4 : Int32} (hf : f (u1).toNatClampNeg ≠ 0) (h : (NI n f B) t) : aw (M_takeAll_b491 t p1 p2 p3 p5 a7 a8 a9 a10 a12 a14 a21 u1 u2 u3 u4) (Sum.elim (fun z => (fun z => (fun z => (NI n f B) z.2) z.2) z.2) (NI n f B)) := by
  unfold M_takeAll_b491
  exact (aw_bind (nM_learn n f B (by assumption) (by assumption)) (fun _ h => (nM_takeAll_b499 n f B (by assumption))))
theorem nM_takeAll_b469 {t : moS} {p1 : Int32} {p2 : Int32} {p3 : Int64} {p5 : Int64} {a7 : Int32} {a8 : Int32} {a9 : Int32} {a10 : Int64} {a12 : Int64} {a14 : Int32} {a19 : Int32} {a21 : Int32} {u1 : Int64} (hf : f (a7).toNatClampNeg ≠ 0) (h : (NI n f B) t) : aw (M_takeAll_b469 t p1 p2 p3 p5 a7 a8 a9 a10 a12 a14 a19 a21 u1) (Sum.elim (fun z => (fun z => (fun z => (NI n f B) z.2) z.2) z.2) (NI n f B)) := by
  unfold M_takeAll_b469
  exact (aw_let (P := (NI n f B)) (ni_z (by assumption) rfl) (fun _ h => (aw_if (nM_takeAll_b491 n f B (by assumption) (by assumption)) (nM_takeAll_b491 n f B (by assumption) (by assumption)))))
theorem nM_takeAll_b453 {t : moS} {p1 : Int32} {p2 : Int32} {p3 : Int64} {p5 : Int64} {a7 : Int32} {a8 : Int32} {a9 : Int32} {a10 : Int64} {a12 : Int64} {a14 : Int32} {a19 : Int32} {a20 : Int32} {a21 : Int32} {u1 : Int64} (hf : f (a7).toNatClampNeg ≠ 0) (h : (NI n f B) t) : aw (M_takeAll_b453 t p1 p2 p3 p5 a7 a8 a9 a10 a12 a14 a19 a20 a21 u1) (Sum.elim (fun z => (fun z => (fun z => (NI n f B) z.2) z.2) z.2) (NI n f B)) := by
  unfold M_takeAll_b453
  exact (aw_let (P := (NI n f B)) (ni_z (by assumption) rfl) (fun _ h => (aw_if (nM_takeAll_b469 n f B (by assumption) (by assumption)) (nM_takeAll_b469 n f B (by assumption) (by assumption)))))
theorem nM_takeAll_b439 {t : moS} {p1 : Int32} {p2 : Int32} {p3 : Int64} {p5 : Int64} {a7 : Int32} {a8 : Int32} {a9 : Int32} {a10 : Int64} {a12 : Int64} {a14 : Int32} {a19 : Int32} {a20 : Int32} {u0 : Int32} (hf : f (a7).toNatClampNeg ≠ 0) (h : (NI n f B) t) : aw (M_takeAll_b439 t p1 p2 p3 p5 a7 a8 a9 a10 a12 a14 a19 a20 u0) (Sum.elim (fun z => (fun z => (fun z => (NI n f B) z.2) z.2) z.2) (NI n f B)) := by
  unfold M_takeAll_b439
  exact (aw_if (nM_takeAll_b453 n f B (by assumption) (by assumption)) (nM_takeAll_b453 n f B (by assumption) (by assumption)))
theorem nM_takeAll_b384 {t : moS} {p1 : Int32} {p2 : Int32} {p3 : Int64} {p5 : Int64} {a7 : Int32} {a8 : Int32} {a9 : Int32} {a10 : Int64} {a12 : Int64} {a14 : Int32} {a15 : Int32} {a19 : Int32} {u0 : Int32} (hf : f (a7).toNatClampNeg ≠ 0) (h : (NI n f B) t) : aw (M_takeAll_b384 t p1 p2 p3 p5 a7 a8 a9 a10 a12 a14 a15 a19 u0) (Sum.elim (fun z => (fun z => (fun z => (NI n f B) z.2) z.2) z.2) (NI n f B)) := by
  unfold M_takeAll_b384
  exact (aw_if (aw_bind aw_t (fun _ h => (aw_bind aw_t (fun _ h => (nM_takeAll_b439 n f B (by assumption) (by assumption)))))) (aw_bind aw_t (fun _ h => (aw_bind aw_t (fun _ h => (nM_takeAll_b439 n f B (by assumption) (by assumption)))))))
theorem nM_takeAll_b379 {t : moS} {p1 : Int32} {p2 : Int32} {p3 : Int64} {p5 : Int64} {a7 : Int32} {a8 : Int32} {a9 : Int32} {a10 : Int64} {a12 : Int64} {a14 : Int32} {a15 : Int32} {a19 : Int32} (hf : f (a7).toNatClampNeg ≠ 0) (h : (NI n f B) t) : aw (M_takeAll_b379 t p1 p2 p3 p5 a7 a8 a9 a10 a12 a14 a15 a19) (Sum.elim (fun z => (fun z => (fun z => (NI n f B) z.2) z.2) z.2) (NI n f B)) := by
  unfold M_takeAll_b379
  exact (nM_takeAll_b384 n f B (by assumption) (by assumption))
theorem nM_takeAll_b348 {t : moS} {p1 : Int32} {p2 : Int32} {p3 : Int64} {p5 : Int64} {a7 : Int32} {a8 : Int32} {a9 : Int32} {a10 : Int64} {a12 : Int64} {a14 : Int32} {a15 : Int32} {a19 : Int32} (hf : f (a7).toNatClampNeg ≠ 0) (h : (NI n f B) t) : aw (M_takeAll_b348 t p1 p2 p3 p5 a7 a8 a9 a10 a12 a14 a15 a19) (Sum.elim (fun z => (fun z => (fun z => (NI n f B) z.2) z.2) z.2) (NI n f B)) := by
  unfold M_takeAll_b348
  exact (aw_bind aw_t (fun _ h => (aw_bind aw_t (fun _ h => (aw_bind aw_t (fun _ h => (aw_if (nM_takeAll_b379 n f B (by assumption) (by assumption)) (nM_takeAll_b384 n f B (by assumption) (by assumption)))))))))
theorem nM_takeAll_b322 {t : moS} {p1 : Int32} {p2 : Int32} {p3 : Int64} {p5 : Int64} {a7 : Int32} {a8 : Int32} {a9 : Int32} {a10 : Int64} {a12 : Int64} {a14 : Int32} {a15 : Int32} {a19 : Int32} (hf : f (a7).toNatClampNeg ≠ 0) (h : (NI n f B) t) : aw (M_takeAll_b322 t p1 p2 p3 p5 a7 a8 a9 a10 a12 a14 a15 a19) (Sum.elim (fun z => (fun z => (fun z => (NI n f B) z.2) z.2) z.2) (NI n f B)) := by
  unfold M_takeAll_b322
  exact (aw_bind aw_t (fun _ h => (aw_if (aw_bind aw_t (fun _ h => (aw_if (nM_takeAll_b379 n f B (by assumption) (by assumption)) (nM_takeAll_b348 n f B (by assumption) (by assumption))))) (nM_takeAll_b348 n f B (by assumption) (by assumption)))))
theorem nM_takeAll_b308 {t : moS} {p1 : Int32} {p2 : Int32} {p3 : Int64} {p5 : Int64} {a7 : Int32} {a8 : Int32} {a9 : Int32} {a10 : Int64} {a12 : Int64} {a14 : Int32} {a15 : Int32} {a19 : Int32} (hf : f (a7).toNatClampNeg ≠ 0) (h : (NI n f B) t) : aw (M_takeAll_b308 t p1 p2 p3 p5 a7 a8 a9 a10 a12 a14 a15 a19) (Sum.elim (fun z => (fun z => (fun z => (NI n f B) z.2) z.2) z.2) (NI n f B)) := by
  unfold M_takeAll_b308
  exact (aw_if (aw_if (nM_takeAll_b379 n f B (by assumption) (by assumption)) (nM_takeAll_b322 n f B (by assumption) (by assumption))) (nM_takeAll_b322 n f B (by assumption) (by assumption)))
theorem nM_takeAll_b236 {t : moS} {p1 : Int32} {p2 : Int32} {p3 : Int64} {p5 : Int64} {a7 : Int32} {a8 : Int32} {a9 : Int32} {a10 : Int64} {a12 : Int64} {a14 : Int32} {a15 : Int32} {a16 : Int64} {u0 : Int32} (hf : f (a7).toNatClampNeg ≠ 0) (h : (NI n f B) t) : aw (M_takeAll_b236 t p1 p2 p3 p5 a7 a8 a9 a10 a12 a14 a15 a16 u0) (Sum.elim (fun z => (fun z => (fun z => (NI n f B) z.2) z.2) z.2) (NI n f B)) := by
  unfold M_takeAll_b236
  exact (aw_if (aw_bind (ni_f (fM_tally (W := wM_tally) rfl mfr.rf) (by assumption) rfl) (fun _ h => (nM_takeAll_b499 n f B (by assumption)))) (aw_bind aw_t (fun _ h => (aw_bind aw_t (fun _ h => (aw_if (aw_bind aw_t (fun _ h => (nM_takeAll_b308 n f B (by assumption) (by assumption)))) (nM_takeAll_b308 n f B (by assumption) (by assumption))))))))
theorem nM_takeAll_b235 {t : moS} {p1 : Int32} {p2 : Int32} {p3 : Int64} {p5 : Int64} {a7 : Int32} {a8 : Int32} {a9 : Int32} {a10 : Int64} {a12 : Int64} {a14 : Int32} {a15 : Int32} {a16 : Int64} (hf : f (a7).toNatClampNeg ≠ 0) (h : (NI n f B) t) : aw (M_takeAll_b235 t p1 p2 p3 p5 a7 a8 a9 a10 a12 a14 a15 a16) (Sum.elim (fun z => (fun z => (fun z => (NI n f B) z.2) z.2) z.2) (NI n f B)) := by
  unfold M_takeAll_b235
  exact (nM_takeAll_b236 n f B (by assumption) (by assumption))
theorem nM_takeAll_b176 {t : moS} {p1 : Int32} {p2 : Int32} {p3 : Int64} {p5 : Int64} {a7 : Int32} {a8 : Int32} {a9 : Int32} {a10 : Int64} {a12 : Int64} {a14 : Int32} {a15 : Int32} {a16 : Int64} {u0 : Int32} (hf : f (a7).toNatClampNeg ≠ 0) (h : (NI n f B) t) : aw (M_takeAll_b176 t p1 p2 p3 p5 a7 a8 a9 a10 a12 a14 a15 a16 u0) (Sum.elim (fun z => (fun z => (fun z => (NI n f B) z.2) z.2) z.2) (NI n f B)) := by
  unfold M_takeAll_b176
  exact (aw_if (nM_takeAll_b235 n f B (by assumption) (by assumption)) (aw_bind aw_t (fun _ h => (aw_if (nM_takeAll_b235 n f B (by assumption) (by assumption)) (aw_bind aw_t (fun _ h => (aw_if (nM_takeAll_b235 n f B (by assumption) (by assumption)) (nM_takeAll_b236 n f B (by assumption) (by assumption)))))))))
theorem nM_takeAll_b175 {t : moS} {p1 : Int32} {p2 : Int32} {p3 : Int64} {p5 : Int64} {a7 : Int32} {a8 : Int32} {a9 : Int32} {a10 : Int64} {a12 : Int64} {a14 : Int32} {a15 : Int32} {a16 : Int64} (hf : f (a7).toNatClampNeg ≠ 0) (h : (NI n f B) t) : aw (M_takeAll_b175 t p1 p2 p3 p5 a7 a8 a9 a10 a12 a14 a15 a16) (Sum.elim (fun z => (fun z => (fun z => (NI n f B) z.2) z.2) z.2) (NI n f B)) := by
  unfold M_takeAll_b175
  exact (nM_takeAll_b176 n f B (by assumption) (by assumption))
theorem nM_takeAll_b128 {t : moS} {p1 : Int32} {p2 : Int32} {p3 : Int64} {p5 : Int64} {a7 : Int32} {a8 : Int32} {a9 : Int32} {a10 : Int64} {a12 : Int64} {a14 : Int32} {a15 : Int32} {u0 : Int64} (hf : f (a7).toNatClampNeg ≠ 0) (h : (NI n f B) t) : aw (M_takeAll_b128 t p1 p2 p3 p5 a7 a8 a9 a10 a12 a14 a15 u0) (Sum.elim (fun z => (fun z => (fun z => (NI n f B) z.2) z.2) z.2) (NI n f B)) := by
  unfold M_takeAll_b128
  exact (aw_bn2 (ni_f2 (fM_isEntry (W := wM_isEntry) rfl mfr.rf) (by assumption) rfl) (fun _ _ h => (aw_if (nM_takeAll_b175 n f B (by assumption) (by assumption)) (aw_if (nM_takeAll_b175 n f B (by assumption) (by assumption)) (aw_if (nM_takeAll_b175 n f B (by assumption) (by assumption)) (aw_if (nM_takeAll_b176 n f B (by assumption) (by assumption)) (nM_takeAll_b175 n f B (by assumption) (by assumption))))))))
theorem nM_takeAll_b98 {t : moS} {p1 : Int32} {p2 : Int32} {p3 : Int64} {p5 : Int64} {a7 : Int32} {a8 : Int32} {a9 : Int32} {a10 : Int64} {a12 : Int64} {a14 : Int32} {a15 : Int32} (hf : f (a7).toNatClampNeg ≠ 0) (h : (NI n f B) t) : aw (M_takeAll_b98 t p1 p2 p3 p5 a7 a8 a9 a10 a12 a14 a15) (Sum.elim (fun z => (fun z => (fun z => (NI n f B) z.2) z.2) z.2) (NI n f B)) := by
  unfold M_takeAll_b98
  exact (aw_if (aw_bind aw_t (fun _ h => (nM_takeAll_b128 n f B (by assumption) (by assumption)))) (aw_bind aw_t (fun _ h => (nM_takeAll_b128 n f B (by assumption) (by assumption)))))
theorem nM_takeAll_s29 {t : moS} {p1 : Int32} {p2 : Int32} {p3 : Int64} {p5 : Int64} {a7 : Int32} {a8 : Int32} {a9 : Int32} {a10 : Int64} {a12 : Int64} {a14 : Int32} (hf : f (a7).toNatClampNeg ≠ 0) (h : (NI n f B) t) : aw (M_takeAll_s29 t p1 p2 p3 p5 a7 a8 a9 a10 a12 a14) (Sum.elim (fun z => (fun z => (fun z => (NI n f B) z.2) z.2) z.2) (NI n f B)) := by
  unfold M_takeAll_s29
  exact (aw_if (aw_if (aw_bind aw_t (fun _ h => (aw_if (aw_bind aw_t (fun _ h => (aw_bind aw_t (fun _ h => (nM_takeAll_b499 n f B (by assumption)))))) (nM_takeAll_b98 n f B (by assumption) (by assumption))))) (nM_takeAll_b98 n f B (by assumption) (by assumption))) (aw_xo (aw_some (by first | assumption | trivial | exact True.intro))))
theorem nM_takeAll_b29 {t : moS} {p1 : Int32} {p2 : Int32} {p3 : Int64} {p5 : Int64} {a7 : Int32} {a8 : Int32} {a9 : Int32} {a10 : Int64} {a12 : Int64} {a14 : Int32} (hf : f (a7).toNatClampNeg ≠ 0) (h : (NI n f B) t) : aw (M_takeAll_b29 t p1 p2 p3 p5 a7 a8 a9 a10 a12 a14) (NI n f B) := by
  unfold M_takeAll_b29
  refine aw_lp (I := (fun z => (fun z => (fun z => (NI n f B) z.2) z.2) z.2)) ?_ ?_
  · exact h
  · intro y hy
    exact (nM_takeAll_s29 n f B (by assumption) hy)
theorem nM_takeAll {t : moS} {p1 : Int32} {p2 : Int32} {p3 : Int64} {p5 : Int64} (hf : f ((p1 / (4 : Int32))).toNatClampNeg ≠ 0) (h : (NI n f B) t) : aw (M_takeAll t p1 p2 p3 p5) (NI n f B) := by
  unfold M_takeAll
  exact (aw_bind aw_t (fun _ h => (nM_takeAll_b29 n f B (by assumption) (by assumption))))
theorem nM_receive_b346 {t : moS} {p1 : Int32} {p2 : Int32} {p3 : Int64} {p5 : Int64} {a14 : Int32} (hf : f ((p1 / (4 : Int32))).toNatClampNeg ≠ 0) (h : (NI n f B) t) : aw (M_receive_b346 t p1 p2 p3 p5 a14) (NI n f B) := by
  unfold M_receive_b346
  exact (aw_if (aw_if (aw_bind (ni_f (fM_answer (W := wM_answer) rfl mfr.rf) (by assumption) rfl) (fun _ h => (aw_some (by first | assumption | trivial | exact True.intro)))) (aw_some (by first | assumption | trivial | exact True.intro))) (aw_bind (nM_takeAll n f B (by assumption) (by assumption)) (fun _ h => (aw_some (by first | assumption | trivial | exact True.intro)))))
theorem nM_receive_b313 {t : moS} {p1 : Int32} {p2 : Int32} {p3 : Int64} {p5 : Int64} {a9 : Int32} {a12 : Int32} {a14 : Int32} (hf : f ((p1 / (4 : Int32))).toNatClampNeg ≠ 0) (h : (NI n f B) t) : aw (M_receive_b313 t p1 p2 p3 p5 a9 a12 a14) (NI n f B) := by
  unfold M_receive_b313
  exact (aw_let (P := (NI n f B)) (ni_s (by assumption) rfl) (fun _ h => (aw_let (P := (NI n f B)) (ni_s (by assumption) rfl) (fun _ h => (aw_if (aw_bn2 (ni_f2 (fM_keysAreGood (W := wM_keysAreGood) rfl mfr.rf) (by assumption) rfl) (fun _ _ h => (aw_if (aw_bind (ni_f (fM_tally (W := wM_tally) rfl mfr.rf) (by assumption) rfl) (fun _ h => (aw_some (by first | assumption | trivial | exact True.intro)))) (nM_receive_b346 n f B (by assumption) (by assumption))))) (nM_receive_b346 n f B (by assumption) (by assumption)))))))
theorem nM_receive_b285 {t : moS} {p1 : Int32} {p2 : Int32} {p3 : Int64} {p5 : Int64} {p8 : Int32} {a9 : Int32} {a12 : Int32} {a14 : Int32} (hf : f ((p1 / (4 : Int32))).toNatClampNeg ≠ 0) (h : (NI n f B) t) : aw (M_receive_b285 t p1 p2 p3 p5 p8 a9 a12 a14) (NI n f B) := by
  unfold M_receive_b285
  exact (aw_if (nM_receive_b313 n f B (by assumption) (by assumption)) (aw_if (aw_if (nM_receive_b313 n f B (by assumption) (by assumption)) (aw_bind (ni_f (fM_tally (W := wM_tally) rfl mfr.rf) (by assumption) rfl) (fun _ h => (aw_some (by first | assumption | trivial | exact True.intro))))) (nM_receive_b313 n f B (by assumption) (by assumption))))
theorem nM_receive_b272 {t : moS} {p1 : Int32} {p2 : Int32} {p3 : Int64} {p5 : Int64} {p8 : Int32} {a9 : Int32} {a12 : Int32} {a14 : Int32} {u0 : Int32} {u1 : Int32} (hf : f ((p1 / (4 : Int32))).toNatClampNeg ≠ 0) (h : (NI n f B) t) : aw (M_receive_b272 t p1 p2 p3 p5 p8 a9 a12 a14 u0 u1) (NI n f B) := by
  unfold M_receive_b272
  exact (aw_if (nM_receive_b285 n f B (by assumption) (by assumption)) (aw_bind (ni_f (fM_tally (W := wM_tally) rfl mfr.rf) (by assumption) rfl) (fun _ h => (aw_some (by first | assumption | trivial | exact True.intro)))))
theorem nM_receive_b250 {t : moS} {p1 : Int32} {p2 : Int32} {p3 : Int64} {p5 : Int64} {p7 : Int32} {p8 : Int32} {a9 : Int32} {a12 : Int32} {u0 : Int32} (hf : f ((p1 / (4 : Int32))).toNatClampNeg ≠ 0) (h : (NI n f B) t) : aw (M_receive_b250 t p1 p2 p3 p5 p7 p8 a9 a12 u0) (NI n f B) := by
  unfold M_receive_b250
  exact (aw_if (nM_receive_b285 n f B (by assumption) (by assumption)) (aw_if (nM_receive_b272 n f B (by assumption) (by assumption)) (nM_receive_b272 n f B (by assumption) (by assumption))))
theorem nM_receive_b219 {t : moS} {p1 : Int32} {p2 : Int32} {p3 : Int64} {p5 : Int64} {p7 : Int32} {p8 : Int32} {a9 : Int32} {a12 : Int32} {u0 : Int32} (hf : f ((p1 / (4 : Int32))).toNatClampNeg ≠ 0) (h : (NI n f B) t) : aw (M_receive_b219 t p1 p2 p3 p5 p7 p8 a9 a12 u0) (NI n f B) := by
  unfold M_receive_b219
  exact (aw_if (aw_bind (ni_f (fM_tally (W := wM_tally) rfl mfr.rf) (by assumption) rfl) (fun _ h => (aw_some (by first | assumption | trivial | exact True.intro)))) (aw_bind aw_t (fun _ h => (aw_if (nM_receive_b250 n f B (by assumption) (by assumption)) (nM_receive_b250 n f B (by assumption) (by assumption))))))
theorem nM_receive_b218 {t : moS} {p1 : Int32} {p2 : Int32} {p3 : Int64} {p5 : Int64} {p7 : Int32} {p8 : Int32} {a9 : Int32} {a12 : Int32} (hf : f ((p1 / (4 : Int32))).toNatClampNeg ≠ 0) (h : (NI n f B) t) : aw (M_receive_b218 t p1 p2 p3 p5 p7 p8 a9 a12) (NI n f B) := by
  unfold M_receive_b218
  exact (nM_receive_b219 n f B (by assumption) (by assumption))
theorem nM_receive_b193 {t : moS} {p1 : Int32} {p2 : Int32} {p3 : Int64} {p5 : Int64} {p7 : Int32} {p8 : Int32} {a9 : Int32} {a12 : Int32} {u0 : Int32} {u1 : Int32} (hf : f ((p1 / (4 : Int32))).toNatClampNeg ≠ 0) (h : (NI n f B) t) : aw (M_receive_b193 t p1 p2 p3 p5 p7 p8 a9 a12 u0 u1) (NI n f B) := by
  unfold M_receive_b193
  exact (aw_if (aw_bind aw_t (fun _ h => (aw_if (aw_bind aw_t (fun _ h => (aw_if (nM_receive_b219 n f B (by assumption) (by assumption)) (nM_receive_b218 n f B (by assumption) (by assumption))))) (nM_receive_b218 n f B (by assumption) (by assumption))))) (nM_receive_b218 n f B (by assumption) (by assumption)))
theorem nM_receive_b178 {t : moS} {p1 : Int32} {p2 : Int32} {p3 : Int64} {p5 : Int64} {p7 : Int32} {p8 : Int32} {a9 : Int32} {a12 : Int32} (hf : f ((p1 / (4 : Int32))).toNatClampNeg ≠ 0) (h : (NI n f B) t) : aw (M_receive_b178 t p1 p2 p3 p5 p7 p8 a9 a12) (NI n f B) := by
  unfold M_receive_b178
  exact (aw_bind aw_t (fun _ h => (aw_if (nM_receive_b193 n f B (by assumption) (by assumption)) (nM_receive_b193 n f B (by assumption) (by assumption)))))
theorem nM_receive_b151 {t : moS} {p1 : Int32} {p2 : Int32} {p3 : Int64} {p5 : Int64} {p7 : Int32} {p8 : Int32} {a9 : Int32} {a12 : Int32} {u0 : Int32} (hf : f ((p1 / (4 : Int32))).toNatClampNeg ≠ 0) (h : (NI n f B) t) : aw (M_receive_b151 t p1 p2 p3 p5 p7 p8 a9 a12 u0) (NI n f B) := by
  unfold M_receive_b151
  exact (aw_if (nM_receive_b218 n f B (by assumption) (by assumption)) (aw_bind aw_t (fun _ h => (aw_if (nM_receive_b178 n f B (by assumption) (by assumption)) (aw_bind aw_t (fun _ h => (aw_if (nM_receive_b178 n f B (by assumption) (by assumption)) (nM_receive_b218 n f B (by assumption) (by assumption)))))))))
theorem nM_receive_b150 {t : moS} {p1 : Int32} {p2 : Int32} {p3 : Int64} {p5 : Int64} {p7 : Int32} {p8 : Int32} {a9 : Int32} {a12 : Int32} (hf : f ((p1 / (4 : Int32))).toNatClampNeg ≠ 0) (h : (NI n f B) t) : aw (M_receive_b150 t p1 p2 p3 p5 p7 p8 a9 a12) (NI n f B) := by
  unfold M_receive_b150
  exact (nM_receive_b151 n f B (by assumption) (by assumption))
theorem nM_receive_b143 {t : moS} {p1 : Int32} {p2 : Int32} {p3 : Int64} {p5 : Int64} {p7 : Int32} {p8 : Int32} {a9 : Int32} {a12 : Int32} {u0 : Int32} {u1 : Int32} (hf : f ((p1 / (4 : Int32))).toNatClampNeg ≠ 0) (h : (NI n f B) t) : aw (M_receive_b143 t p1 p2 p3 p5 p7 p8 a9 a12 u0 u1) (NI n f B) := by
  unfold M_receive_b143
  exact (aw_if (nM_receive_b150 n f B (by assumption) (by assumption)) (nM_receive_b151 n f B (by assumption) (by assumption)))
theorem nM_receive_b50 {t : moS} {p1 : Int32} {p2 : Int32} {p3 : Int64} {p5 : Int64} {p7 : Int32} {p8 : Int32} {a9 : Int32} {a10 : Int32} {u0 : Int32} (hf : f ((p1 / (4 : Int32))).toNatClampNeg ≠ 0) (h : (NI n f B) t) : aw (M_receive_b50 t p1 p2 p3 p5 p7 p8 a9 a10 u0) (NI n f B) := by
  unfold M_receive_b50
  exact (aw_if (aw_bind aw_t (fun _ h => (aw_bind aw_t (fun _ h => (aw_bind aw_t (fun _ h => (aw_if (ni_f (fM_receive_b87 (W := wM_receive_b87) rfl mfr.rf) (by assumption) rfl) (aw_if (nM_receive_b150 n f B (by assumption) (by assumption)) (aw_if (aw_if (nM_receive_b143 n f B (by assumption) (by assumption)) (nM_receive_b143 n f B (by assumption) (by assumption))) (nM_receive_b150 n f B (by assumption) (by assumption))))))))))) (ni_f (fM_receive_b87 (W := wM_receive_b87) rfl mfr.rf) (by assumption) rfl))
theorem nM_receive_b49 {t : moS} {p1 : Int32} {p2 : Int32} {p3 : Int64} {p5 : Int64} {p7 : Int32} {p8 : Int32} {a9 : Int32} {a10 : Int32} (hf : f ((p1 / (4 : Int32))).toNatClampNeg ≠ 0) (h : (NI n f B) t) : aw (M_receive_b49 t p1 p2 p3 p5 p7 p8 a9 a10) (NI n f B) := by
  unfold M_receive_b49
  exact (nM_receive_b50 n f B (by assumption) (by assumption))
theorem nM_receive {t : moS} {p1 : Int32} {p2 : Int32} {p3 : Int64} {p5 : Int64} {p7 : Int32} {p8 : Int32} (hf : f ((p1 / (4 : Int32))).toNatClampNeg ≠ 0) (h : (NI n f B) t) : aw (M_receive t p1 p2 p3 p5 p7 p8) (NI n f B) := by
  unfold M_receive
  exact (aw_bind (ni_f (fM_tally (W := wM_tally) rfl mfr.rf) (by assumption) rfl) (fun _ h => (aw_bind aw_t (fun _ h => (aw_if (aw_bind aw_t (fun _ h => (aw_if (nM_receive_b50 n f B (by assumption) (by assumption)) (nM_receive_b49 n f B (by assumption) (by assumption))))) (nM_receive_b49 n f B (by assumption) (by assumption)))))))
theorem nM_arrive_b273 {t : moS} {a3 : Int32} {a4 : Int32} {a5 : Int32} {a6 : Int32} {a7 : Int64} {a9 : Int64} {a11 : Int64} {a13 : Int64} {a15 : Int32} {a16 : Int32} {a17 : Int32} {a18 : Int32} (hf : f ((a18 / (4 : Int32))).toNatClampNeg ≠ 0) (h : (NI n f B) t) : aw (M_arrive_b273 t a3 a4 a5 a6 a7 a9 a11 a13 a15 a16 a17 a18) (Sum.elim (fun z => (NI n f B) z.2) (NI n f B)) := by
  unfold M_arrive_b273
  exact (aw_bind (nM_receive n f B (by assumption) (by assumption)) (fun _ h => (aw_if (aw_xo (aw_some (by first | assumption | trivial | exact True.intro))) (nM_arrive_b295 n f B (by assumption)))))
theorem nM_arrive_b258 {t : moS} {a3 : Int32} {a4 : Int32} {a5 : Int32} {a6 : Int32} {a7 : Int64} {a9 : Int64} {a11 : Int64} {a13 : Int64} {a15 : Int32} {a16 : Int32} {a17 : Int32} {a18 : Int32} {u0 : Int32} (hf : f ((a18 / (4 : Int32))).toNatClampNeg ≠ 0) (h : (NI n f B) t) : aw (M_arrive_b258 t a3 a4 a5 a6 a7 a9 a11 a13 a15 a16 a17 a18 u0) (Sum.elim (fun z => (NI n f B) z.2) (NI n f B)) := by
  unfold M_arrive_b258
  exact (aw_if (aw_if (nM_arrive_b295 n f B (by assumption)) (nM_arrive_b273 n f B (by assumption) (by assumption))) (nM_arrive_b273 n f B (by assumption) (by assumption)))
theorem nM_arrive_b257 {t : moS} {a3 : Int32} {a4 : Int32} {a5 : Int32} {a6 : Int32} {a7 : Int64} {a9 : Int64} {a11 : Int64} {a13 : Int64} {a15 : Int32} {a16 : Int32} {a17 : Int32} {a18 : Int32} (hf : f ((a18 / (4 : Int32))).toNatClampNeg ≠ 0) (h : (NI n f B) t) : aw (M_arrive_b257 t a3 a4 a5 a6 a7 a9 a11 a13 a15 a16 a17 a18) (Sum.elim (fun z => (NI n f B) z.2) (NI n f B)) := by
  unfold M_arrive_b257
  exact (nM_arrive_b258 n f B (by assumption) (by assumption))
theorem nM_arrive_b184 {t : moS} {a3 a4 a5 a6 : Int32} {a7 a9 a11 a13 : Int64} {a15 a16 a17 u0 : Int32} (hu : u0 ≠ -1 → f (u0 / (4 : Int32)).toNatClampNeg ≠ 0) (h : NI n f B t) : aw (M_arrive_b184 t a3 a4 a5 a6 a7 a9 a11 a13 a15 a16 a17 u0) (Sum.elim (fun z => NI n f B z.2) (NI n f B)) := by
  unfold M_arrive_b184
  by_cases c : u0 = -1
  · rw [if_pos c]
    exact nM_arrive_b295 n f B h
  · rw [if_neg c]
    have hu := hu c
    exact (aw_if (nM_arrive_b295 n f B h) (aw_bind aw_t (fun _ _ => (aw_if (nM_arrive_b295 n f B h) (aw_bind aw_t (fun _ _ => (aw_if (aw_bind aw_t (fun _ _ => (aw_if (nM_arrive_b258 n f B hu h) (nM_arrive_b257 n f B hu h)))) (nM_arrive_b257 n f B hu h))))))))
theorem nM_arrive_s154 {t : moS} {a3 a4 a5 a6 : Int32} {a7 a9 a11 a13 : Int64} {a15 a16 a17 : Int32} (hB : B) (h : NI n f B t) : aw (M_arrive_s154 t a3 a4 a5 a6 a7 a9 a11 a13 a15 a16 a17) (Sum.elim (fun z => NI n f B z.2) (NI n f B)) := by
  unfold M_arrive_s154
  refine aw_if ?_ (aw_xo (aw_some h))
  intro z e
  obtain ⟨x1, e1, e⟩ := Option.bind_eq_some_iff.mp e
  split at e
  · exact nM_arrive_b184 n f B (fun c => absurd rfl c) h z e
  · rename_i c
    obtain ⟨x2, e2, e⟩ := Option.bind_eq_some_iff.mp e
    refine nM_arrive_b184 n f B (fun c2 => ?_) h z e
    rw [(if_to (h.2.1 hB) x2 e2).resolve_left c2]
    exact ni_39 h e1 c
theorem nM_arrive_b154 {t : moS} {a3 : Int32} {a4 : Int32} {a5 : Int32} {a6 : Int32} {a7 : Int64} {a9 : Int64} {a11 : Int64} {a13 : Int64} {a15 : Int32} {a16 : Int32} {a17 : Int32} (hB : B) (h : (NI n f B) t) : aw (M_arrive_b154 t a3 a4 a5 a6 a7 a9 a11 a13 a15 a16 a17) (NI n f B) := by
  unfold M_arrive_b154
  refine aw_lp (I := (fun z => (NI n f B) z.2)) ?_ ?_
  · exact h
  · intro y hy
    exact (nM_arrive_s154 n f B hB hy)
theorem nM_arrive_s99 {t : moS} {p1 : Int32} {a2 : Int32} {a3 : Int32} {a4 : Int32} {a5 : Int32} {a6 : Int32} {a7 : Int64} {a9 : Int64} {a11 : Int64} {a13 : Int64} {a15 : Int32} {a16 : Int32} {a17 : Int32} (hB : B) (h : (NI n f B) t) : aw (M_arrive_s99 t p1 a2 a3 a4 a5 a6 a7 a9 a11 a13 a15 a16 a17) (Sum.elim (fun z => (NI n f B) z.2) (NI n f B)) := by
  unfold M_arrive_s99
  exact (aw_if (aw_if (aw_bind aw_t (fun _ h => (nM_arrive_b139 n f B (by assumption)))) (nM_arrive_b139 n f B (by assumption))) (aw_xo (aw_bind (ni_f (fM_takeOff (W := wM_takeOff) rfl mfr.rf) (by assumption) rfl) (fun _ h => (nM_arrive_b154 n f B hB (by assumption))))))
theorem nM_arrive_b99 {t : moS} {p1 : Int32} {a2 : Int32} {a3 : Int32} {a4 : Int32} {a5 : Int32} {a6 : Int32} {a7 : Int64} {a9 : Int64} {a11 : Int64} {a13 : Int64} {a15 : Int32} {a16 : Int32} {a17 : Int32} (hB : B) (h : (NI n f B) t) : aw (M_arrive_b99 t p1 a2 a3 a4 a5 a6 a7 a9 a11 a13 a15 a16 a17) (NI n f B) := by
  unfold M_arrive_b99
  refine aw_lp (I := (fun z => (NI n f B) z.2)) ?_ ?_
  · exact h
  · intro y hy
    exact (nM_arrive_s99 n f B hB hy)
theorem nM_arrive {t : moS} {p1 : Int32} (hB : B) (h : (NI n f B) t) : aw (M_arrive t p1) (NI n f B) := by
  unfold M_arrive
  exact (aw_bind aw_t (fun _ h => (aw_bind aw_t (fun _ h => (aw_bind aw_t (fun _ h => (aw_bind aw_t (fun _ h => (aw_bind aw_t (fun _ h => (aw_bind aw_t (fun _ h => (aw_bind aw_t (fun _ h => (aw_bind aw_t (fun _ h => (aw_bind aw_t (fun _ h => (aw_bind aw_t (fun _ h => (aw_bind aw_t (fun _ h => (aw_bind aw_t (fun _ h => (aw_let (P := (NI n f B)) (ni_s (by assumption) rfl) (fun _ h => (nM_arrive_b99 n f B hB (by assumption))))))))))))))))))))))))))))
theorem nM_tick_b165 {t : moS} {a2 : Int32} (h : (NI n f B) t) : aw (M_tick_b165 t a2) (Sum.elim (fun z => (NI n f B) z.2) (NI n f B)) := by
  unfold M_tick_b165
  exact (aw_some (by first | assumption | trivial | exact True.intro))
theorem nM_age_b115 {t : moS} {p1 : Int32} {a2 : Int32} (h : (NI n f B) t) : aw (M_age_b115 t p1 a2) (Sum.elim (fun z => (NI n f B) z.2) (NI n f B)) := by
  unfold M_age_b115
  exact (aw_some (by first | assumption | trivial | exact True.intro))
theorem nM_remove_s2 {t : moS} {p1 : Int32} {a3 : Int32} (hf : f (p1).toNatClampNeg ≠ 0) (h : (NI n f B) t) : aw (M_remove_s2 t p1 a3) (Sum.elim (fun z => (NI n f B) z.2) (NI n f B)) := by
  unfold M_remove_s2
  exact (aw_bind aw_t (fun _ h => (aw_if (aw_bind (ni_f (fM_copyRoute (W := wM_copyRoute) rfl mfr.rf) (by assumption) rfl) (fun _ h => (aw_some (by first | assumption | trivial | exact True.intro)))) (aw_xo (aw_bind aw_t (fun _ h => (aw_bind (ni_w105 (by assumption) (by assumption)) (fun _ h => (aw_some (by first | assumption | trivial | exact True.intro))))))))))
theorem nM_remove_b2 {t : moS} {p1 : Int32} {a3 : Int32} (hf : f (p1).toNatClampNeg ≠ 0) (h : (NI n f B) t) : aw (M_remove_b2 t p1 a3) (NI n f B) := by
  unfold M_remove_b2
  refine aw_lp (I := (fun z => (NI n f B) z.2)) ?_ ?_
  · exact h
  · intro y hy
    exact (nM_remove_s2 n f B (by assumption) hy)
theorem nM_remove {t : moS} {p1 : Int32} {p2 : Int32} (hf : f (p1).toNatClampNeg ≠ 0) (h : (NI n f B) t) : aw (M_remove t p1 p2) (NI n f B) := by
  unfold M_remove
  exact (nM_remove_b2 n f B (by assumption) (by assumption))
theorem nM_age_b68 {t : moS} {p1 : Int32} {a2 : Int32} {u0 : Int32} (hf : f (p1).toNatClampNeg ≠ 0) (h : (NI n f B) t) : aw (M_age_b68 t p1 a2 u0) (Sum.elim (fun z => (NI n f B) z.2) (NI n f B)) := by
  unfold M_age_b68
  exact (aw_if (aw_bind aw_t (fun _ h => (aw_if (aw_bind aw_t (fun _ h => (aw_if (nM_age_b115 n f B (by assumption)) (aw_bind (nM_remove n f B (by assumption) (by assumption)) (fun _ h => (aw_some (by first | assumption | trivial | exact True.intro))))))) (nM_age_b115 n f B (by assumption))))) (aw_bind (nM_die n f B (by assumption) (by assumption)) (fun _ h => (nM_age_b115 n f B (by assumption)))))
theorem nM_age_b67 {t : moS} {p1 : Int32} {a2 : Int32} (hf : f (p1).toNatClampNeg ≠ 0) (h : (NI n f B) t) : aw (M_age_b67 t p1 a2) (Sum.elim (fun z => (NI n f B) z.2) (NI n f B)) := by
  unfold M_age_b67
  exact (nM_age_b68 n f B (by assumption) (by assumption))
theorem nM_age_s6 {t : moS} {p1 : Int32} {a2 : Int32} (hf : f (p1).toNatClampNeg ≠ 0) (h : (NI n f B) t) : aw (M_age_s6 t p1 a2) (Sum.elim (fun z => (NI n f B) z.2) (NI n f B)) := by
  unfold M_age_s6
  exact (aw_bind aw_t (fun _ h => (aw_if (aw_bind aw_t (fun _ h => (aw_if (aw_bind aw_t (fun _ h => (aw_if (aw_bind aw_t (fun _ h => (aw_bind aw_t (fun _ h => (aw_if (nM_age_b67 n f B (by assumption) (by assumption)) (nM_age_b68 n f B (by assumption) (by assumption))))))) (nM_age_b67 n f B (by assumption) (by assumption))))) (nM_age_b67 n f B (by assumption) (by assumption))))) (aw_xo (aw_some (by first | assumption | trivial | exact True.intro))))))
theorem nM_age_b6 {t : moS} {p1 : Int32} {a2 : Int32} (hf : f (p1).toNatClampNeg ≠ 0) (h : (NI n f B) t) : aw (M_age_b6 t p1 a2) (NI n f B) := by
  unfold M_age_b6
  refine aw_lp (I := (fun z => (NI n f B) z.2)) ?_ ?_
  · exact h
  · intro y hy
    exact (nM_age_s6 n f B (by assumption) hy)
theorem nM_age {t : moS} {p1 : Int32} (hf : f (p1).toNatClampNeg ≠ 0) (h : (NI n f B) t) : aw (M_age t p1) (NI n f B) := by
  unfold M_age
  exact (nM_age_b6 n f B (by assumption) (by assumption))
theorem nM_forget_s6 {t : moS} {p1 : Int32} {a2 : Int32} (hf : f (p1).toNatClampNeg ≠ 0) (h : (NI n f B) t) : aw (M_forget_s6 t p1 a2) (Sum.elim (fun z => (NI n f B) z.2) (NI n f B)) := by
  unfold M_forget_s6
  exact (aw_bind aw_t (fun _ h => (aw_if (aw_bind (ni_wrZ (by assumption) rfl) (fun _ h => (aw_some (by first | assumption | trivial | exact True.intro)))) (aw_xo (aw_bind (ni_w44 (by assumption) (by assumption)) (fun _ h => (aw_some (by first | assumption | trivial | exact True.intro))))))))
theorem nM_forget_b6 {t : moS} {p1 : Int32} {a2 : Int32} (hf : f (p1).toNatClampNeg ≠ 0) (h : (NI n f B) t) : aw (M_forget_b6 t p1 a2) (NI n f B) := by
  unfold M_forget_b6
  refine aw_lp (I := (fun z => (NI n f B) z.2)) ?_ ?_
  · exact h
  · intro y hy
    exact (nM_forget_s6 n f B (by assumption) hy)
theorem nM_forget {t : moS} {p1 : Int32} (hf : f (p1).toNatClampNeg ≠ 0) (h : (NI n f B) t) : aw (M_forget t p1) (NI n f B) := by
  unfold M_forget
  exact (nM_forget_b6 n f B (by assumption) (by assumption))
theorem nM_tick_s54 {t : moS} {a2 : Int32} (h : NI n f B t) : aw (M_tick_s54 t a2) (Sum.elim (fun z => NI n f B z.2) (NI n f B)) := by
  unfold M_tick_s54
  refine aw_if ?_ (aw_xo (aw_some h))
  intro z e
  obtain ⟨x1, e1, e⟩ := Option.bind_eq_some_iff.mp e
  split at e
  · exact nM_tick_b165 n f B h z e
  · rename_i c
    have hf := ni_39 h e1 c
    refine aw_use (P := Sum.elim (fun z => NI n f B z.2) (NI n f B)) ?_ e
    exact (aw_bind (nM_age n f B (by assumption) (by assumption)) (fun _ h => (aw_bind aw_t (fun _ h => (aw_if (aw_bind aw_t (fun _ h => (aw_if (nM_tick_b165 n f B (by assumption)) (aw_bind aw_t (fun _ h => (aw_if (nM_tick_b165 n f B (by assumption)) (aw_bind (ni_f (fM_tellAll (W := wM_tellAll) rfl mfr.rf) (by assumption) rfl) (fun _ h => (aw_bind (nM_forget n f B (by assumption) (by assumption)) (fun _ h => (aw_bind (ni_f (fM_tally (W := wM_tally) rfl mfr.rf) (by assumption) rfl) (fun _ h => (nM_tick_b165 n f B (by assumption)))))))))))))) (aw_bind (ni_f (fM_tellAll (W := wM_tellAll) rfl mfr.rf) (by assumption) rfl) (fun _ h => (aw_bind (nM_forget n f B (by assumption) (by assumption)) (fun _ h => (aw_bind aw_t (fun _ h => (aw_bind (ni_wrI (by assumption) rfl) (fun _ h => (nM_tick_b165 n f B (by assumption)))))))))))))))
theorem nM_tick_b54 {t : moS} {a2 : Int32} (h : (NI n f B) t) : aw (M_tick_b54 t a2) (NI n f B) := by
  unfold M_tick_b54
  refine aw_lp (I := (fun z => (NI n f B) z.2)) ?_ ?_
  · exact h
  · intro y hy
    exact (nM_tick_s54 n f B hy)
theorem nM_tick_s12 {t : moS} {a1 : Int32} (hB : B) (h : (NI n f B) t) : aw (M_tick_s12 t a1) (Sum.elim (fun z => (NI n f B) z.2) (NI n f B)) := by
  unfold M_tick_s12
  exact (aw_if (aw_bind aw_t (fun _ h => (aw_bind aw_t (fun _ h => (aw_if (aw_some (by first | assumption | trivial | exact True.intro)) (aw_bind (nM_arrive n f B hB (by assumption)) (fun _ h => (aw_some (by first | assumption | trivial | exact True.intro))))))))) (aw_xo (nM_tick_b54 n f B (by assumption))))
theorem nM_tick_b12 {t : moS} {a1 : Int32} (hB : B) (h : (NI n f B) t) : aw (M_tick_b12 t a1) (NI n f B) := by
  unfold M_tick_b12
  refine aw_lp (I := (fun z => (NI n f B) z.2)) ?_ ?_
  · exact h
  · intro y hy
    exact (nM_tick_s12 n f B hB hy)
theorem nM_tick {t : moS} (hB : B) (h : (NI n f B) t) : aw (M_tick t) (NI n f B) := by
  unfold M_tick
  exact (aw_let (P := (NI n f B)) (ni_s (by assumption) rfl) (fun _ h => (nM_tick_b12 n f B hB (by assumption))))
theorem nM_ticks_s32 {t : moS} {p1 : Int32} {a2 : Int32} (hB : B) (h : (NI n f B) t) : aw (M_ticks_s32 t p1 a2) (Sum.elim (fun z => (NI n f B) z.2) (fun z => (NI n f B) z.2)) := by
  unfold M_ticks_s32
  exact (aw_if (aw_bind (nM_tick n f B hB (by assumption)) (fun _ h => (aw_some (by first | assumption | trivial | exact True.intro)))) (aw_xo (aw_some (by first | assumption | trivial | exact True.intro))))
theorem nM_ticks_b32 {t : moS} {p1 : Int32} {a2 : Int32} (hB : B) (h : (NI n f B) t) : aw (M_ticks_b32 t p1 a2) (fun z => (NI n f B) z.2) := by
  unfold M_ticks_b32
  refine aw_lp (I := (fun z => (NI n f B) z.2)) ?_ ?_
  · exact h
  · intro y hy
    exact (nM_ticks_s32 n f B hB hy)
theorem nM_ticks {t : moS} {p1 : Int32} (hB : B) (h : (NI n f B) t) : aw (M_ticks t p1) (fun z => (NI n f B) z.2) := by
  unfold M_ticks
  exact (aw_let (P := (NI n f B)) (ni_s (by assumption) rfl) (fun _ h => (aw_if (aw_some (by first | assumption | trivial | exact True.intro)) (aw_if (aw_some (by first | assumption | trivial | exact True.intro)) (aw_if (aw_some (by first | assumption | trivial | exact True.intro)) (nM_ticks_b32 n f B hB (by assumption)))))))
end Nr
