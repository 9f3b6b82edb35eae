/-! Where datagrams come from: what a put adds. -/
section Sp
variable {E : List (Int32 × Int64)} {t : moS}
theorem SRC.cons {l : Int32} {hh : Int64} (h : SRC E t) (hl : lh0 hh) : SRC ((l, hh) :: E) t := by
  have si : ∀ {l' : Int32} {h' : Int64}, sIn E t l' h' → sIn ((l, hh) :: E) t l' h' := fun {l' h'} i => by
    rcases i with w | w | w
    · exact Or.inl w
    · exact Or.inr (Or.inl (List.mem_cons_of_mem _ w))
    · exact Or.inr (Or.inr w)
  obtain ⟨k0, k1, k2, k3, k4, k5, k6⟩ := h
  refine ⟨k0, fun e he => ?_, k2, k3, fun p hp => si (k4 p hp), fun k hk => ?_, k6⟩
  · rcases List.mem_cons.1 he with rfl | he
    · exact hl
    · exact k1 e he
  · obtain ⟨⟨r, p, b1, b2, b3, b4⟩, b5⟩ := k5 k hk
    exact ⟨⟨r, p, b1, b2, b3, si b4⟩, b5⟩
theorem hi_lh {k : Nat} {p1 : Int32} : aw (M_highOf t k p1 0) lh0 := by
  unfold M_highOf M_highOf_b5
  refine aw_lp (I := fun _ => True) trivial fun y _ => ?_
  unfold M_highOf_s5 M_highOf_b17
  rw [if_pos rfl]
  exact aw_if (aw_bind aw_t fun _ _ => aw_some trivial) (aw_xo (by rw [if_pos rfl]; exact aw_some (lh_shl _)))
/-- one source more at most -/
def SR1 (E : List (Int32 × Int64)) (t : moS) : Prop := ∃ E' : List (Int32 × Int64), E'.length ≤ E.length + 1 ∧ SRC E' t
theorem SR1.of (h : SRC E t) : SR1 E t := ⟨E, Nat.le_succ _, h⟩
theorem sM_put {p1 p2 p3 p4 : Int32} (h : SRC E t) : aw (M_put t p1 p2 p3 p4) (fun z => SR1 E z.2) := by
  have g121 : ∀ {u : moS} {p1 p3 p4 a6 a7 a8 : Int32}, SRC E u → aw (M_put_b121 u p1 p3 p4 a6 a7 a8) (fun z => SR1 E z.2) := by
    intro u p1 p3 p4 a6 a7 a8 hu
    unfold M_put_b121
    refine aw_lp (I := fun y => SRC E y.2) hu fun y hy => ?_
    unfold M_put_s121
    refine aw_if (aw_bind aw_t fun _ _ => aw_bind (sr_wrI hy rfl) fun _ h => aw_some h) (aw_xo ?_)
    intro z e
    obtain ⟨x1, e1, e⟩ := Option.bind_eq_some_iff.mp e
    obtain ⟨x2, -, e⟩ := Option.bind_eq_some_iff.mp e
    obtain ⟨s3, e3, e⟩ := Option.bind_eq_some_iff.mp e
    cases e
    by_cases c : a6 = 0
    · subst c
      exact ⟨(p1, x1) :: E, Nat.le_refl _, sr_go (hy.cons (hi_lh x1 e1)) (fun _ => Or.inr (Or.inl List.mem_cons_self)) s3 e3⟩
    · exact ⟨E, Nat.le_succ _, sr_go hy (fun z => absurd z c) s3 e3⟩
  have g60 : ∀ {u : moS} {p1 p3 p4 a5 u0 : Int32}, SRC E u → aw (M_put_b60 u p1 p3 p4 a5 u0) (fun z => SR1 E z.2) := by
    intro u p1 p3 p4 a5 u0 hu
    have g73 : ∀ {u1 : Int32}, aw (M_put_b73 u p1 p3 p4 a5 u0 u1) (fun z => SR1 E z.2) := by
      intro u1
      unfold M_put_b73
      exact aw_if (aw_some (SR1.of hu)) (aw_if (aw_some (SR1.of hu)) (aw_bind aw_t fun _ _ => aw_if (aw_some (SR1.of hu)) (aw_let (P := SRC E) (sr_s hu rfl) fun _ h => g121 h)))
    unfold M_put_b60
    exact aw_if g73 g73
  have g27 : ∀ {u : moS} {p1 p2 p3 p4 a5 : Int32}, SRC E u → aw (M_put_b27 u p1 p2 p3 p4 a5) (fun z => SR1 E z.2) := by
    intro u p1 p2 p3 p4 a5 hu
    unfold M_put_b27
    exact aw_if (aw_some (SR1.of hu)) (aw_if (aw_bind aw_t fun _ _ => aw_if (aw_some (SR1.of hu)) (aw_if (g60 hu) (g60 hu))) (aw_some (SR1.of hu)))
  unfold M_put
  exact aw_let (P := SRC E) (sr_s h rfl) fun _ h1 => aw_let (P := SRC E) (sr_s h1 rfl) fun _ h2 => aw_if (g27 h2) (aw_if (g27 h2) (aw_some (SR1.of h2)))
end Sp
