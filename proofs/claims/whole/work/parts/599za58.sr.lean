/-! Where datagrams come from: what keeps it, by program. -/
abbrev Tsr : List Nat := [70, 71, 75, 76, 101, 102, 103, 104, 126, 131, 132]
section Sr
variable {E : List (Int32 × Int64)}
theorem wrI_x {t z : moS} {k : Nat} {i v : Int32} (e : wrI t k i v = some z) : z = moSI t k i.toNatClampNeg v := by
  unfold wrI at e
  split at e
  · cases e
  · cases e; rfl
theorem wrZ_x {t z : moS} {k : Nat} {i v : Int32} (e : wrZ t k i v = some z) : z = moSI t k i.toNatClampNeg (vp_nar .boolean v) := by
  unfold wrZ at e
  split at e
  · cases e
  · cases e; rfl
theorem wrJ_x {t z : moS} {k : Nat} {i : Int32} {v : Int64} (e : wrJ t k i v = some z) : z = moSJ t k i.toNatClampNeg v := by
  unfold wrJ at e
  split at e
  · cases e
  · cases e; rfl
theorem rdI_x {t : moS} {k : Nat} {i v : Int32} (e : rdI t k i = some v) : ¬ i < 0 ∧ i.toNatClampNeg < t.N k ∧ v = t.I k i.toNatClampNeg := by
  unfold rdI at e
  split at e
  · cases e
  · rename_i h
    cases e
    exact ⟨fun z => h (Or.inl z), Nat.lt_of_not_le fun z => h (Or.inr z), rfl⟩
theorem rdJ_x {t : moS} {k : Nat} {i : Int32} {v : Int64} (e : rdJ t k i = some v) : ¬ i < 0 ∧ i.toNatClampNeg < t.N k ∧ v = t.J k i.toNatClampNeg := by
  unfold rdJ at e
  split at e
  · cases e
  · rename_i h
    cases e
    exact ⟨fun z => h (Or.inl z), Nat.lt_of_not_le fun z => h (Or.inr z), rfl⟩
theorem sr_wrI {t : moS} {k : Nat} {i v : Int32} (h : SRC E t) (d : dj Tsr [k]) : aw (wrI t k i v) (SRC E) := fun z e => by
  rw [wrI_x e]
  exact h.fr (mfr.si (W := [k]) List.mem_cons_self) d
theorem sr_wrZ {t : moS} {k : Nat} {i v : Int32} (h : SRC E t) (d : dj Tsr [k]) : aw (wrZ t k i v) (SRC E) := fun z e => by
  rw [wrZ_x e]
  exact h.fr (mfr.si (W := [k]) List.mem_cons_self) d
theorem sr_wrJ {t : moS} {k : Nat} {i : Int32} {v : Int64} (h : SRC E t) (d : dj Tsr [k]) : aw (wrJ t k i v) (SRC E) := fun z e => by
  rw [wrJ_x e]
  exact h.fr (mfr.sj (W := [k]) List.mem_cons_self) d
theorem sr_s {t : moS} {k : Nat} {v : Int32} (h : SRC E t) (d : dj Tsr [k]) : SRC E (moSS t k v) := h.fr (mfr.ss (W := [k]) List.mem_cons_self) d
theorem sr_z {t : moS} {k : Nat} {v : Int64} (h : SRC E t) (d : dj Tsr [k]) : SRC E (moSZ t k v) := h.fr (mfr.sz (W := [k]) List.mem_cons_self) d
theorem sr_f {t : moS} {W : List Nat} {o : Option moS} (f : aw o (mfr W t)) (h : SRC E t) (d : dj Tsr W) : aw o (SRC E) := fun z e => h.fr (f z e) d
theorem sr_f2 {α : Type} {t : moS} {W : List Nat} {o : Option (α × moS)} (f : aw o (fun z => mfr W t z.2)) (h : SRC E t) (d : dj Tsr W) : aw o (fun z => SRC E z.2) := fun z e => h.fr (f z e) d
/-- what a datagram that goes leaves at its place -/
def GoP (t : moS) (l f : Int32) (h : Int64) (z : moS) : Prop := mfr [23, 24, 25, 26, 123, 124, 125, 126, 127, 128, 129, 130, 131, 132, 133, 134, 135, 136, 137, 138] t z ∧ ((z.I 126 = t.I 126 ∧ z.I 131 = t.I 131 ∧ z.J 132 = t.J 132) ∨ ∃ j, ∀ y, z.I 126 y = (if y = j then l else t.I 126 y) ∧ z.I 131 y = (if y = j then f else t.I 131 y) ∧ z.J 132 y = if y = j then h else t.J 132 y)
theorem go_105 {t : moS} {p1 p2 p3 p8 p13 p14 a16 a17 : Int32} {p4 p6 p9 p11 : Int64} : aw (M_go_b105 t p1 p2 p3 p4 p6 p8 p9 p11 p13 p14 a16 a17) (GoP t p1 p8 p9) := by
  unfold M_go_b105
  refine aw_lp (I := fun y => y.2 = t) rfl fun y hy => ?_
  have key : aw (M_go_s105 t p1 p2 p3 p4 p6 p8 p9 p11 p13 p14 a16 y.1) (Sum.elim (fun y => y.2 = t) (GoP t p1 p8 p9)) := by
    intro z e
    unfold M_go_s105 at e
    obtain ⟨x1, -, e⟩ := Option.bind_eq_some_iff.mp e
    split at e
    rotate_left
    · cases e
      rfl
    refine aw_xo (o := _) ?_ z e
    intro z e
    obtain ⟨s2, e2, e⟩ := Option.bind_eq_some_iff.mp e
    obtain ⟨s3, e3, e⟩ := Option.bind_eq_some_iff.mp e
    unfold letS at e
    obtain ⟨s5, e5, e⟩ := Option.bind_eq_some_iff.mp e
    obtain ⟨s6, e6, e⟩ := Option.bind_eq_some_iff.mp e
    obtain ⟨s7, e7, e⟩ := Option.bind_eq_some_iff.mp e
    obtain ⟨s8, e8, e⟩ := Option.bind_eq_some_iff.mp e
    obtain ⟨s9, e9, e⟩ := Option.bind_eq_some_iff.mp e
    obtain ⟨s10, e10, e⟩ := Option.bind_eq_some_iff.mp e
    obtain ⟨s11, e11, e⟩ := Option.bind_eq_some_iff.mp e
    have m2 : mfr [123, 124, 125, 127, 128, 129, 130] t (moSS s3 123 (s3.S 123 + 1)) := by
      rw [wrI_x e3, wrZ_x e2]
      exact ((mfr.si (by decide)).tr (mfr.si (by decide))).tr (mfr.ss (by decide))
    generalize moSS s3 123 (s3.S 123 + 1) = s4 at m2 e5
    have q5 := wrI_x e5
    have m9 : mfr [127, 128, 129, 130] s5 s9 := by
      rw [wrJ_x e9, wrJ_x e8, wrZ_x e7, wrI_x e6]
      exact ((mfr.si (by decide)).tr (mfr.si (by decide))).tr ((mfr.sj (by decide)).tr (mfr.sj (by decide)))
    have q10 := wrI_x e10
    have q11 := wrJ_x e11
    have mr : mfr [133, 134, 135, 136, 137, 138] s11 z := by
      refine aw_bind (aw_wrJ (W := [133, 134, 135, 136, 137, 138]) (by decide) mfr.rf) (fun _ h => aw_bind (aw_wrI (by decide) h) (fun _ h => aw_bind (aw_wrI (by decide) h) (fun _ h => aw_bind aw_t (fun _ _ => aw_bind aw_t (fun _ _ => aw_nzL (aw_bind (aw_wrI (by decide) h) (fun _ h => aw_bind (aw_wrI (by decide) h) (fun _ h => fM_go_b288 (W := [133, 134, 135, 136, 137, 138]) rfl h)))))))) z e
    refine ⟨?_, Or.inr ⟨y.1.toNatClampNeg, fun i => ⟨?_, ?_, ?_⟩⟩⟩
    · refine (m2.wk (by decide)).tr ?_
      refine mfr.tr (t1 := s5) (by rw [q5]; exact mfr.si (by decide)) ?_
      refine (m9.wk (by decide)).tr ?_
      refine mfr.tr (t1 := s11) (by rw [q11, q10]; exact (mfr.si (by decide)).tr (mfr.sj (by decide))) (mr.wk (by decide))
    · rw [mr.I 126 (by decide), q11]
      show s10.I 126 i = _
      rw [q10, moSI_n (by decide), m9.I 126 (by decide), q5, evMI, m2.I 126 (by decide)]
      by_cases c : i = y.1.toNatClampNeg
      · rw [if_pos ⟨rfl, c⟩, if_pos c]
      · rw [if_neg (fun z => c z.2), if_neg c]
    · rw [mr.I 131 (by decide), q11]
      show s10.I 131 i = _
      rw [q10, evMI, m9.I 131 (by decide), q5, moSI_n (by decide), m2.I 131 (by decide)]
      by_cases c : i = y.1.toNatClampNeg
      · rw [if_pos ⟨rfl, c⟩, if_pos c]
      · rw [if_neg (fun z => c z.2), if_neg c]
    · rw [mr.J 132 (by decide), q11, evMJ, q10]
      show (if 132 = 132 ∧ i = y.1.toNatClampNeg then p9 else s9.J 132 i) = _
      rw [m9.J 132 (by decide), q5]
      show (if 132 = 132 ∧ i = y.1.toNatClampNeg then p9 else s4.J 132 i) = _
      rw [m2.J 132 (by decide)]
      by_cases c : i = y.1.toNatClampNeg
      · rw [if_pos ⟨rfl, c⟩, if_pos c]
      · rw [if_neg (fun z => c z.2), if_neg c]
  rw [← hy] at key ⊢
  exact key
theorem go_p {t : moS} {p1 p2 p3 p8 p13 p14 p15 : Int32} {p4 p6 p9 p11 : Int64} : aw (M_go t p1 p2 p3 p4 p6 p8 p9 p11 p13 p14 p15) (GoP t p1 p8 p9) := by
  have pre : ∀ {u z : moS}, mfr [23, 24, 25, 26] t u → GoP u p1 p8 p9 z → GoP t p1 p8 p9 z := fun {u z} m h => by
    refine ⟨(m.wk (by decide)).tr h.1, ?_⟩
    have h2 := h.2
    rw [m.I 126 (by decide), m.I 131 (by decide), m.J 132 (by decide)] at h2
    exact h2
  have self : ∀ {u : moS}, mfr [23, 24, 25, 26] t u → GoP t p1 p8 p9 u := fun {u} m => ⟨m.wk (by decide), Or.inl ⟨m.I 126 (by decide), m.I 131 (by decide), m.J 132 (by decide)⟩⟩
  unfold M_go
  refine aw_bind aw_t fun x1 _ => aw_bind aw_t fun x2 _ => aw_bind (aw_wrI (W := [23, 24, 25, 26]) (by decide) mfr.rf) fun s3 h3 => aw_bind (aw_wrI (by decide) h3) fun s4 h4 => ?_
  unfold M_go_b31
  refine aw_lp (I := fun y => mfr [23, 24, 25, 26] t y.2) h4 fun y hy => ?_
  unfold M_go_s31
  refine aw_if (aw_bind aw_t fun x4 _ => aw_bind (aw_wrI (by decide) hy) fun s5 h5 => aw_some h5) (aw_xo (aw_if (aw_some (self hy)) (aw_if ?_ (aw_bind aw_t fun x1 _ => aw_if (aw_bind aw_t fun x2 _ => aw_bind (aw_wrI (by decide) hy) fun s3 h3 => aw_some (self h3)) ?_))))
  · unfold M_go_b102
    exact fun z e => pre hy (go_105 z e)
  · unfold M_go_b102
    exact fun z e => pre hy (go_105 z e)
theorem sr_go {t : moS} {p1 p2 p3 p8 p13 p14 p15 : Int32} {p4 p6 p9 p11 : Int64} (h : SRC E t) (hs : p8 = 0 → sIn E t p1 p9) : aw (M_go t p1 p2 p3 p4 p6 p8 p9 p11 p13 p14 p15) (SRC E) := fun z e => by
  obtain ⟨m, v⟩ := go_p z e
  obtain ⟨⟨n1, n2, n3, n4⟩, a1, a2, a3, a4, a5, a6⟩ := h
  have si : ∀ {l : Int32} {h : Int64}, sIn E t l h → sIn E z l h := fun i => i.fr m rfl
  refine ⟨⟨?_, ?_, ?_, ?_⟩, a1, ?_, ?_, fun p hp => ?_, ?_, ?_⟩
  · rw [m.2 70 (Or.inl (by decide))]; exact n1
  · rw [m.2 71 (Or.inl (by decide))]; exact n2
  · rw [m.2 75 (Or.inl (by decide))]; exact n3
  · rw [m.2 76 (Or.inl (by decide))]; exact n4
  · rw [m.J 76 (by decide), m.I 75 (by decide)]; exact a2
  · unfold cI
    rw [m.I 70 (by decide), m.I 75 (by decide)]; exact a3
  · rcases v with ⟨v1, v2, v3⟩ | ⟨j, v⟩
    · rw [v2] at hp
      rw [v1, v3]
      exact si (a4 p hp)
    · obtain ⟨v1, v2, v3⟩ := v p
      rw [v2] at hp
      rw [v1, v3]
      by_cases c : p = j
      · rw [if_pos c] at hp
        rw [if_pos c, if_pos c]
        exact si (hs hp)
      · rw [if_neg c] at hp
        rw [if_neg c, if_neg c]
        exact si (a4 p hp)
  · intro k hk
    rw [m.S 101 (by decide)] at hk
    obtain ⟨⟨r, p, b1, b2, b3, b4⟩, b5⟩ := a5 k hk
    refine ⟨⟨r, p, b1, ?_, ?_, ?_⟩, ?_⟩
    · unfold cI; rw [m.I 70 (by decide)]; exact b2
    · rw [m.I 102 (by decide)]; exact b3
    · rw [m.I 71 (by decide), m.J 103 (by decide)]; exact si b4
    · rw [m.J 104 (by decide)]; exact b5
  · rw [m.S 101 (by decide), m.I 102 (by decide), m.J 103 (by decide)]
    exact a6
theorem nI_cl {i : Int32} (h : ¬ i < 0) : i = nI i.toNatClampNeg := by
  obtain ⟨r, hr, e⟩ := nI_of h
  rw [e, nI_clamp hr]
theorem sM_send {t : moS} {p1 p2 p3 p4 p5 : Int32} {p6 p8 : Int64} (h : SRC E t) : aw (M_send t p1 p2 p3 p4 p5 p6 p8) (SRC E) := by
  unfold M_send
  refine aw_bind aw_t fun x1 _ => aw_bind aw_t fun x2 _ => aw_if (aw_some h) (aw_bn2 (sr_f2 (fM_wrap (W := wM_wrap) rfl mfr.rf) h rfl) fun x4 s3 h3 => aw_if (aw_some h3) (aw_bind aw_t fun x5 _ => aw_bind (sr_wrI h3 rfl) fun s6 h6 => ?_))
  intro z e
  obtain ⟨x7, e7, e⟩ := Option.bind_eq_some_iff.mp e
  obtain ⟨x8, e8, e⟩ := Option.bind_eq_some_iff.mp e
  obtain ⟨x9, -, e⟩ := Option.bind_eq_some_iff.mp e
  have go : ∀ w, aw (M_send_b93 s6 x7 p1 p5 p6 p8 p2 x8 x9 w) (SRC E) := fun w => by
    unfold M_send_b93
    refine aw_bind (sr_go h6 fun z2 => ?_) fun _ h => aw_some h
    obtain ⟨a1, a2, a3⟩ := rdI_x e7
    obtain ⟨b1, b2, b3⟩ := rdJ_x e8
    rw [h6.1.2.1] at a2
    have ep : p1 = nI p1.toNatClampNeg := nI_cl a1
    generalize p1.toNatClampNeg = j at ep a2 a3
    have e2 : (2 : Int32) * p1 + p2 = nI (2 * j) := by
      rw [z2, ep, show (2 : Int32) = nI 2 from rfl, pk_mul, Int32.add_zero]
    rw [e2, nI_clamp (by omega)] at b3
    rw [a3, b3]
    by_cases c : s6.I 75 (2 * j) = 0
    · exact Or.inl ((h6.2.2.1 j a2).2 c)
    · exact Or.inr (Or.inr ⟨j, a2, c, rfl, rfl⟩)
  exact aw_if (go _) (go _) z e
theorem sM_request_s2 {t : moS} {p1 : Int32} {p2 : Int32} {a3 : Int32} (h : SRC E t) : aw (M_request_s2 t p1 p2 a3) (Sum.elim (fun z => (SRC E) z.2) (SRC E)) := by
  unfold M_request_s2
  exact (aw_if (aw_bind (sr_wrI (by assumption) rfl) (fun _ h => (aw_some (by first | assumption | trivial | exact True.intro)))) (aw_xo (aw_bind (sr_wrI (by assumption) rfl) (fun _ h => (aw_bind (sM_send (by assumption)) (fun _ h => (aw_some (by first | assumption | trivial | exact True.intro))))))))
theorem sM_request_b2 {t : moS} {p1 : Int32} {p2 : Int32} {a3 : Int32} (h : SRC E t) : aw (M_request_b2 t p1 p2 a3) (SRC E) := by
  unfold M_request_b2
  refine aw_lp (I := (fun z => (SRC E) z.2)) ?_ ?_
  · exact h
  · intro y hy
    exact (sM_request_s2 hy)
theorem sM_request {t : moS} {p1 : Int32} {p2 : Int32} (h : SRC E t) : aw (M_request t p1 p2) (SRC E) := by
  unfold M_request
  exact (sM_request_b2 (by assumption))
theorem sM_requests_b26 {t : moS} {p1 : Int32} {a2 : Int32} (h : SRC E t) : aw (M_requests_b26 t p1 a2) (Sum.elim (fun z => (SRC E) z.2) (SRC E)) := by
  unfold M_requests_b26
  exact (aw_some (by first | assumption | trivial | exact True.intro))
theorem sM_requests_s2 {t : moS} {p1 : Int32} {a2 : Int32} (h : SRC E t) : aw (M_requests_s2 t p1 a2) (Sum.elim (fun z => (SRC E) z.2) (SRC E)) := by
  unfold M_requests_s2
  exact (aw_if (aw_bind aw_t (fun _ h => (aw_if (sM_requests_b26 (by assumption)) (aw_bind (sM_request (by assumption)) (fun _ h => (sM_requests_b26 (by assumption))))))) (aw_xo (aw_some (by first | assumption | trivial | exact True.intro))))
theorem sM_requests_b2 {t : moS} {p1 : Int32} {a2 : Int32} (h : SRC E t) : aw (M_requests_b2 t p1 a2) (SRC E) := by
  unfold M_requests_b2
  refine aw_lp (I := (fun z => (SRC E) z.2)) ?_ ?_
  · exact h
  · intro y hy
    exact (sM_requests_s2 hy)
theorem sM_requests {t : moS} {p1 : Int32} (h : SRC E t) : aw (M_requests t p1) (SRC E) := by
  unfold M_requests
  exact (sM_requests_b2 (by assumption))
theorem sM_tellTo_b76 {t : moS} {p1 : Int32} {p2 : Int32} {p3 : Int32} {p4 : Int64} {p6 : Int64} {a8 : Int32} {a9 : Int32} {a10 : Int32} (h : SRC E t) : aw (M_tellTo_b76 t p1 p2 p3 p4 p6 a8 a9 a10) (Sum.elim (fun z => (fun z => (SRC E) z.2) z.2) (SRC E)) := by
  unfold M_tellTo_b76
  exact (aw_some (by first | assumption | trivial | exact True.intro))
theorem sM_tellTo_b59 {t : moS} {p1 : Int32} {p2 : Int32} {p3 : Int32} {p4 : Int64} {p6 : Int64} {a8 : Int32} {a9 : Int32} {a10 : Int32} (h : SRC E t) : aw (M_tellTo_b59 t p1 p2 p3 p4 p6 a8 a9 a10) (Sum.elim (fun z => (fun z => (SRC E) z.2) z.2) (SRC E)) := by
  unfold M_tellTo_b59
  exact (aw_bind (sM_send (by assumption)) (fun _ h => (sM_tellTo_b76 (by assumption))))
theorem sM_tellTo_s14 {t : moS} {p1 : Int32} {p2 : Int32} {p3 : Int32} {p4 : Int64} {p6 : Int64} {a8 : Int32} {a9 : Int32} {a10 : Int32} (h : SRC E t) : aw (M_tellTo_s14 t p1 p2 p3 p4 p6 a8 a9 a10) (Sum.elim (fun z => (fun z => (SRC E) z.2) z.2) (SRC E)) := by
  unfold M_tellTo_s14
  exact (aw_if (aw_bind (sr_f (fM_layEntry (W := wM_layEntry) rfl mfr.rf) (by assumption) rfl) (fun _ h => (aw_if (aw_if (sM_tellTo_b76 (by assumption)) (sM_tellTo_b59 (by assumption))) (sM_tellTo_b59 (by assumption))))) (aw_xo (aw_some (by first | assumption | trivial | exact True.intro))))
theorem sM_tellTo_b14 {t : moS} {p1 : Int32} {p2 : Int32} {p3 : Int32} {p4 : Int64} {p6 : Int64} {a8 : Int32} {a9 : Int32} {a10 : Int32} (h : SRC E t) : aw (M_tellTo_b14 t p1 p2 p3 p4 p6 a8 a9 a10) (SRC E) := by
  unfold M_tellTo_b14
  refine aw_lp (I := (fun z => (fun z => (SRC E) z.2) z.2)) ?_ ?_
  · exact h
  · intro y hy
    exact (sM_tellTo_s14 hy)
theorem sM_tellTo {t : moS} {p1 : Int32} {p2 : Int32} {p3 : Int32} {p4 : Int64} {p6 : Int64} (h : SRC E t) : aw (M_tellTo t p1 p2 p3 p4 p6) (SRC E) := by
  unfold M_tellTo
  exact (aw_bind aw_t (fun _ h => (sM_tellTo_b14 (by assumption))))
theorem sM_tell_b106 {t : moS} {p1 : Int32} {p2 : Int32} {a3 : Int32} (h : SRC E t) : aw (M_tell_b106 t p1 p2 a3) (Sum.elim (fun z => (SRC E) z.2) (SRC E)) := by
  unfold M_tell_b106
  exact (aw_some (by first | assumption | trivial | exact True.intro))
theorem sM_tell_b100 {t : moS} {p1 : Int32} {p2 : Int32} {a3 : Int32} {a4 : Int32} (h : SRC E t) : aw (M_tell_b100 t p1 p2 a3 a4) (Sum.elim (fun z => (SRC E) z.2) (Sum.elim (fun z => (SRC E) z.2) (SRC E))) := by
  unfold M_tell_b100
  exact (aw_some (by first | assumption | trivial | exact True.intro))
theorem sM_tell_s53 {t : moS} {p1 : Int32} {p2 : Int32} {a3 : Int32} {a4 : Int32} (h : SRC E t) : aw (M_tell_s53 t p1 p2 a3 a4) (Sum.elim (fun z => (SRC E) z.2) (Sum.elim (fun z => (SRC E) z.2) (SRC E))) := by
  unfold M_tell_s53
  exact (aw_bind aw_t (fun _ h => (aw_if (aw_bind aw_t (fun _ h => (aw_if (aw_bind aw_t (fun _ h => (aw_bind aw_t (fun _ h => (aw_bind (sM_tellTo (by assumption)) (fun _ h => (sM_tell_b100 (by assumption)))))))) (sM_tell_b100 (by assumption))))) (aw_xo (sM_tell_b106 (by assumption))))))
theorem sM_tell_b53 {t : moS} {p1 : Int32} {p2 : Int32} {a3 : Int32} {a4 : Int32} (h : SRC E t) : aw (M_tell_b53 t p1 p2 a3 a4) (Sum.elim (fun z => (SRC E) z.2) (SRC E)) := by
  unfold M_tell_b53
  refine aw_lp (I := (fun z => (SRC E) z.2)) ?_ ?_
  · exact h
  · intro y hy
    exact (sM_tell_s53 hy)
theorem sM_tell_b48 {t : moS} {p1 : Int32} {p2 : Int32} {a3 : Int32} (h : SRC E t) : aw (M_tell_b48 t p1 p2 a3) (Sum.elim (fun z => (SRC E) z.2) (SRC E)) := by
  unfold M_tell_b48
  exact (sM_tell_b53 (by assumption))
theorem sM_tell_s2 {t : moS} {p1 : Int32} {p2 : Int32} {a3 : Int32} (h : SRC E t) : aw (M_tell_s2 t p1 p2 a3) (Sum.elim (fun z => (SRC E) z.2) (SRC E)) := by
  unfold M_tell_s2
  exact (aw_if (aw_bind aw_t (fun _ h => (aw_if (sM_tell_b106 (by assumption)) (aw_bind (sr_f (fM_gather (W := wM_gather) rfl mfr.rf) (by assumption) rfl) (fun _ h => (aw_bind aw_t (fun _ h => (aw_if (aw_bind (sM_tellTo (by assumption)) (fun _ h => (sM_tell_b48 (by assumption)))) (sM_tell_b48 (by assumption)))))))))) (aw_xo (aw_some (by first | assumption | trivial | exact True.intro))))
theorem sM_tell_b2 {t : moS} {p1 : Int32} {p2 : Int32} {a3 : Int32} (h : SRC E t) : aw (M_tell_b2 t p1 p2 a3) (SRC E) := by
  unfold M_tell_b2
  refine aw_lp (I := (fun z => (SRC E) z.2)) ?_ ?_
  · exact h
  · intro y hy
    exact (sM_tell_s2 hy)
theorem sM_tell {t : moS} {p1 : Int32} {p2 : Int32} (h : SRC E t) : aw (M_tell t p1 p2) (SRC E) := by
  unfold M_tell
  exact (sM_tell_b2 (by assumption))
theorem sM_tellAll_s4 {t : moS} {p1 : Int32} {p2 : Int32} {a3 : Int32} (h : SRC E t) : aw (M_tellAll_s4 t p1 p2 a3) (Sum.elim (fun z => (SRC E) z.2) (SRC E)) := by
  unfold M_tellAll_s4
  exact (aw_bind aw_t (fun _ h => (aw_if (aw_bind (sM_tell (by assumption)) (fun _ h => (aw_some (by first | assumption | trivial | exact True.intro)))) (aw_xo (aw_some (by first | assumption | trivial | exact True.intro))))))
theorem sM_tellAll_b4 {t : moS} {p1 : Int32} {p2 : Int32} {a3 : Int32} (h : SRC E t) : aw (M_tellAll_b4 t p1 p2 a3) (SRC E) := by
  unfold M_tellAll_b4
  refine aw_lp (I := (fun z => (SRC E) z.2)) ?_ ?_
  · exact h
  · intro y hy
    exact (sM_tellAll_s4 hy)
theorem sM_tellAll {t : moS} {p1 : Int32} {p2 : Int32} (h : SRC E t) : aw (M_tellAll t p1 p2) (SRC E) := by
  unfold M_tellAll
  exact (sM_tellAll_b4 (by assumption))
theorem sM_answer_b193 {t : moS} {p1 : Int32} {p2 : Int32} {p3 : Int64} {p5 : Int64} {a7 : Int32} {a8 : Int32} (h : SRC E t) : aw (M_answer_b193 t p1 p2 p3 p5 a7 a8) (Sum.elim (fun z => (SRC E) z.2) (SRC E)) := by
  unfold M_answer_b193
  exact (aw_some (by first | assumption | trivial | exact True.intro))
theorem sM_answer_b151 {t : moS} {p1 : Int32} {p2 : Int32} {p3 : Int64} {p5 : Int64} {a7 : Int32} {a8 : Int32} {u0 : Int32} (h : SRC E t) : aw (M_answer_b151 t p1 p2 p3 p5 a7 a8 u0) (Sum.elim (fun z => (SRC E) z.2) (SRC E)) := by
  unfold M_answer_b151
  exact (aw_if (aw_bind (sr_f (fM_put4 (W := [146]) rfl (by decide) mfr.rf) (by assumption) rfl) (fun _ h => (sM_answer_b193 (by assumption)))) (aw_bind (sr_wrI (by assumption) rfl) (fun _ h => (sM_answer_b193 (by assumption)))))
theorem sM_answer_b133 {t : moS} {p1 : Int32} {p2 : Int32} {p3 : Int64} {p5 : Int64} {a7 : Int32} {a8 : Int32} {a9 : Int32} (h : SRC E t) : aw (M_answer_b133 t p1 p2 p3 p5 a7 a8 a9) (Sum.elim (fun z => (SRC E) z.2) (SRC E)) := by
  unfold M_answer_b133
  exact (aw_if (sM_answer_b151 (by assumption)) (aw_bind aw_t (fun _ h => (sM_answer_b151 (by assumption)))))
theorem sM_answer_s83 {t : moS} {p1 : Int32} {p2 : Int32} {p3 : Int64} {p5 : Int64} {a7 : Int32} {a8 : Int32} (h : SRC E t) : aw (M_answer_s83 t p1 p2 p3 p5 a7 a8) (Sum.elim (fun z => (SRC E) z.2) (SRC E)) := by
  unfold M_answer_s83
  exact (aw_if (aw_bn2 (sr_f2 (fM_isEntry (W := wM_isEntry) rfl mfr.rf) (by assumption) rfl) (fun _ _ h => (aw_if (sM_answer_b133 (by assumption)) (aw_bind aw_t (fun _ h => (sM_answer_b133 (by assumption))))))) (aw_xo (aw_bind (sM_send (by assumption)) (fun _ h => (aw_some (by first | assumption | trivial | exact True.intro))))))
theorem sM_answer_b83 {t : moS} {p1 : Int32} {p2 : Int32} {p3 : Int64} {p5 : Int64} {a7 : Int32} {a8 : Int32} (h : SRC E t) : aw (M_answer_b83 t p1 p2 p3 p5 a7 a8) (SRC E) := by
  unfold M_answer_b83
  refine aw_lp (I := (fun z => (SRC E) z.2)) ?_ ?_
  · exact h
  · intro y hy
    exact (sM_answer_s83 hy)
theorem sM_answer_s45 {t : moS} {p1 : Int32} {p2 : Int32} {p3 : Int64} {p5 : Int64} {a7 : Int32} {a8 : Int32} (h : SRC E t) : aw (M_answer_s45 t p1 p2 p3 p5 a7 a8) (Sum.elim (fun z => (SRC E) z.2) (SRC E)) := by
  unfold M_answer_s45
  exact (aw_if (aw_bind aw_t (fun _ h => (aw_bind (sr_wrI (by assumption) rfl) (fun _ h => (aw_some (by first | assumption | trivial | exact True.intro)))))) (aw_xo (sM_answer_b83 (by assumption))))
theorem sM_answer_b45 {t : moS} {p1 : Int32} {p2 : Int32} {p3 : Int64} {p5 : Int64} {a7 : Int32} {a8 : Int32} (h : SRC E t) : aw (M_answer_b45 t p1 p2 p3 p5 a7 a8) (SRC E) := by
  unfold M_answer_b45
  refine aw_lp (I := (fun z => (SRC E) z.2)) ?_ ?_
  · exact h
  · intro y hy
    exact (sM_answer_s45 hy)
theorem sM_answer {t : moS} {p1 : Int32} {p2 : Int32} {p3 : Int64} {p5 : Int64} (h : SRC E t) : aw (M_answer t p1 p2 p3 p5) (SRC E) := by
  unfold M_answer
  exact (aw_bind (sr_f (fM_tally (W := wM_tally) rfl mfr.rf) (by assumption) rfl) (fun _ h => (aw_bind aw_t (fun _ h => (aw_if (sM_answer_b45 (by assumption)) (aw_bind (sr_f (fM_gather (W := wM_gather) rfl mfr.rf) (by assumption) rfl) (fun _ h => (aw_bind (sM_tellTo (by assumption)) (fun _ h => (aw_some (by first | assumption | trivial | exact True.intro)))))))))))
theorem sM_tick_b165 {t : moS} {a2 : Int32} (h : SRC E t) : aw (M_tick_b165 t a2) (Sum.elim (fun z => (SRC E) z.2) (SRC E)) := by
  unfold M_tick_b165
  exact (aw_some (by first | assumption | trivial | exact True.intro))
theorem sM_tick_s54 {t : moS} {a2 : Int32} (h : SRC E t) : aw (M_tick_s54 t a2) (Sum.elim (fun z => (SRC E) z.2) (SRC E)) := by
  unfold M_tick_s54
  exact (aw_if (aw_bind aw_t (fun _ h => (aw_if (sM_tick_b165 (by assumption)) (aw_bind (sr_f (fM_age (W := wM_age) rfl mfr.rf) (by assumption) rfl) (fun _ h => (aw_bind aw_t (fun _ h => (aw_if (aw_bind aw_t (fun _ h => (aw_if (sM_tick_b165 (by assumption)) (aw_bind aw_t (fun _ h => (aw_if (sM_tick_b165 (by assumption)) (aw_bind (sM_tellAll (by assumption)) (fun _ h => (aw_bind (sr_f (fM_forget (W := wM_forget) rfl mfr.rf) (by assumption) rfl) (fun _ h => (aw_bind (sr_f (fM_tally (W := wM_tally) rfl mfr.rf) (by assumption) rfl) (fun _ h => (sM_tick_b165 (by assumption)))))))))))))) (aw_bind (sM_tellAll (by assumption)) (fun _ h => (aw_bind (sr_f (fM_forget (W := wM_forget) rfl mfr.rf) (by assumption) rfl) (fun _ h => (aw_bind aw_t (fun _ h => (aw_bind (sr_wrI (by assumption) rfl) (fun _ h => (sM_tick_b165 (by assumption)))))))))))))))))) (aw_xo (aw_some (by first | assumption | trivial | exact True.intro))))
theorem sM_tick_b54 {t : moS} {a2 : Int32} (h : SRC E t) : aw (M_tick_b54 t a2) (SRC E) := by
  unfold M_tick_b54
  refine aw_lp (I := (fun z => (SRC E) z.2)) ?_ ?_
  · exact h
  · intro y hy
    exact (sM_tick_s54 hy)
theorem sM_run_s75 {t : moS} {p1 : Int32} {a3 : Int32} (h : SRC E t) : aw (M_run_s75 t p1 a3) (Sum.elim (fun z => (SRC E) z.2) (fun z => (SRC E) z.2)) := by
  unfold M_run_s75
  exact (aw_bind aw_t (fun _ h => (aw_if (aw_bind (sM_requests (by assumption)) (fun _ h => (aw_some (by first | assumption | trivial | exact True.intro)))) (aw_xo (aw_bind aw_t (fun _ h => (aw_bind (sr_wrI (by assumption) rfl) (fun _ h => (aw_some (by first | assumption | trivial | exact True.intro))))))))))
theorem sM_run_b75 {t : moS} {p1 : Int32} {a3 : Int32} (h : SRC E t) : aw (M_run_b75 t p1 a3) (fun z => (SRC E) z.2) := by
  unfold M_run_b75
  refine aw_lp (I := (fun z => (SRC E) z.2)) ?_ ?_
  · exact h
  · intro y hy
    exact (sM_run_s75 hy)
theorem sM_run_b39 {t : moS} {p1 : Int32} {p2 : Int32} (h : SRC E t) : aw (M_run_b39 t p1 p2) (fun z => (SRC E) z.2) := by
  unfold M_run_b39
  exact (aw_bind (sr_wrI (by assumption) rfl) (fun _ h => (aw_bind (sr_wrI (by assumption) rfl) (fun _ h => (aw_bind (sr_wrZ (by assumption) rfl) (fun _ h => (aw_if (aw_some (by first | assumption | trivial | exact True.intro)) (aw_bind (sr_f (fM_settle (W := wM_settle) rfl mfr.rf) (by assumption) rfl) (fun _ h => (sM_run_b75 (by assumption)))))))))))
theorem sM_run {t : moS} {p1 : Int32} {p2 : Int32} (h : SRC E t) : aw (M_run t p1 p2) (fun z => (SRC E) z.2) := by
  unfold M_run
  exact (aw_let (P := SRC E) (sr_s (by assumption) rfl) (fun _ h => (aw_if (aw_some (by first | assumption | trivial | exact True.intro)) (aw_if (aw_bind aw_t (fun _ h => (aw_if (aw_some (by first | assumption | trivial | exact True.intro)) (aw_if (aw_bind (sM_tellAll (by assumption)) (fun _ h => (sM_run_b39 (by assumption)))) (sM_run_b39 (by assumption)))))) (aw_some (by first | assumption | trivial | exact True.intro))))))
theorem sM_link_b197 {t : moS} {p1 : Int32} {p2 : Int32} {a4 : Int32} (h : SRC E t) : aw (M_link_b197 t p1 p2 a4) (Sum.elim (fun z => (SRC E) z.2) (fun z => (SRC E) z.2)) := by
  unfold M_link_b197
  exact (aw_some (by first | assumption | trivial | exact True.intro))
theorem sM_link_b185 {t : moS} {p1 : Int32} {p2 : Int32} {a4 : Int32} {a5 : Int32} {a6 : Int32} (h : SRC E t) : aw (M_link_b185 t p1 p2 a4 a5 a6) (Sum.elim (fun z => (SRC E) z.2) (Sum.elim (fun z => (SRC E) z.2) (fun z => (SRC E) z.2))) := by
  unfold M_link_b185
  exact (aw_some (by first | assumption | trivial | exact True.intro))
theorem sM_link_b191 {t : moS} {p1 : Int32} {p2 : Int32} {a4 : Int32} (h : SRC E t) : aw (M_link_b191 t p1 p2 a4) (Sum.elim (fun z => (SRC E) z.2) (fun z => (SRC E) z.2)) := by
  unfold M_link_b191
  exact (aw_bind (sr_f (fM_settle (W := wM_settle) rfl mfr.rf) (by assumption) rfl) (fun _ h => (sM_link_b197 (by assumption))))
theorem sM_link_s131 {t : moS} {p1 : Int32} {p2 : Int32} {a4 : Int32} {a5 : Int32} {a6 : Int32} (h : SRC E t) : aw (M_link_s131 t p1 p2 a4 a5 a6) (Sum.elim (fun z => (SRC E) z.2) (Sum.elim (fun z => (SRC E) z.2) (fun z => (SRC E) z.2))) := by
  unfold M_link_s131
  exact (aw_bind aw_t (fun _ h => (aw_if (aw_if (aw_bind aw_t (fun _ h => (aw_if (aw_bind aw_t (fun _ h => (aw_if (aw_bind (sr_f (fM_die (W := wM_die) rfl mfr.rf) (by assumption) rfl) (fun _ h => (sM_link_b185 (by assumption)))) (sM_link_b185 (by assumption))))) (sM_link_b185 (by assumption))))) (aw_xo (sM_link_b191 (by assumption)))) (aw_xo (sM_link_b191 (by assumption))))))
theorem sM_link_b131 {t : moS} {p1 : Int32} {p2 : Int32} {a4 : Int32} {a5 : Int32} {a6 : Int32} (h : SRC E t) : aw (M_link_b131 t p1 p2 a4 a5 a6) (Sum.elim (fun z => (SRC E) z.2) (fun z => (SRC E) z.2)) := by
  unfold M_link_b131
  refine aw_lp (I := (fun z => (SRC E) z.2)) ?_ ?_
  · exact h
  · intro y hy
    exact (sM_link_s131 hy)
theorem sM_link_b112 {t : moS} {p1 : Int32} {p2 : Int32} {a4 : Int32} {u0 : Int32} (h : SRC E t) : aw (M_link_b112 t p1 p2 a4 u0) (Sum.elim (fun z => (SRC E) z.2) (fun z => (SRC E) z.2)) := by
  unfold M_link_b112
  exact (aw_if (sM_link_b197 (by assumption)) (sM_link_b131 (by assumption)))
theorem sM_link_b254 {t : moS} {p1 : Int32} {p2 : Int32} {a4 : Int32} (h : SRC E t) : aw (M_link_b254 t p1 p2 a4) (Sum.elim (fun z => (SRC E) z.2) (fun z => (SRC E) z.2)) := by
  unfold M_link_b254
  exact (aw_some (by first | assumption | trivial | exact True.intro))
theorem sM_link_b240 {t : moS} {p1 : Int32} {p2 : Int32} {a4 : Int32} {u0 : Int32} (h : SRC E t) : aw (M_link_b240 t p1 p2 a4 u0) (Sum.elim (fun z => (SRC E) z.2) (fun z => (SRC E) z.2)) := by
  unfold M_link_b240
  exact (aw_if (sM_link_b254 (by assumption)) (aw_bind (sM_requests (by assumption)) (fun _ h => (sM_link_b254 (by assumption)))))
theorem sM_link_s206 {t : moS} {p1 : Int32} {p2 : Int32} {a4 : Int32} (h : SRC E t) : aw (M_link_s206 t p1 p2 a4) (Sum.elim (fun z => (SRC E) z.2) (fun z => (SRC E) z.2)) := by
  unfold M_link_s206
  exact (aw_if (aw_if (aw_xo (aw_some (by first | assumption | trivial | exact True.intro))) (aw_bind aw_t (fun _ h => (aw_if (sM_link_b240 (by assumption)) (aw_bind aw_t (fun _ h => (sM_link_b240 (by assumption)))))))) (aw_xo (aw_some (by first | assumption | trivial | exact True.intro))))
theorem sM_link_b206 {t : moS} {p1 : Int32} {p2 : Int32} {a4 : Int32} (h : SRC E t) : aw (M_link_b206 t p1 p2 a4) (fun z => (SRC E) z.2) := by
  unfold M_link_b206
  refine aw_lp (I := (fun z => (SRC E) z.2)) ?_ ?_
  · exact h
  · intro y hy
    exact (sM_link_s206 hy)
theorem sM_link_s82 {t : moS} {p1 : Int32} {p2 : Int32} {a4 : Int32} (h : SRC E t) : aw (M_link_s82 t p1 p2 a4) (Sum.elim (fun z => (SRC E) z.2) (fun z => (SRC E) z.2)) := by
  unfold M_link_s82
  exact (aw_if (aw_bind aw_t (fun _ h => (aw_if (sM_link_b112 (by assumption)) (aw_bind aw_t (fun _ h => (sM_link_b112 (by assumption))))))) (aw_xo (sM_link_b206 (by assumption))))
theorem sM_link_b82 {t : moS} {p1 : Int32} {p2 : Int32} {a4 : Int32} (h : SRC E t) : aw (M_link_b82 t p1 p2 a4) (fun z => (SRC E) z.2) := by
  unfold M_link_b82
  refine aw_lp (I := (fun z => (SRC E) z.2)) ?_ ?_
  · exact h
  · intro y hy
    exact (sM_link_s82 hy)
theorem sM_link_b79 {t : moS} {p1 : Int32} {p2 : Int32} (h : SRC E t) : aw (M_link_b79 t p1 p2) (fun z => (SRC E) z.2) := by
  unfold M_link_b79
  exact (sM_link_b82 (by assumption))
theorem sM_link_s38 {t : moS} {p1 : Int32} {p2 : Int32} {a3 : Int32} (h : SRC E t) : aw (M_link_s38 t p1 p2 a3) (Sum.elim (fun z => (SRC E) z.2) (fun z => (SRC E) z.2)) := by
  unfold M_link_s38
  exact (aw_if (aw_if (aw_bind aw_t (fun _ h => (aw_bind aw_t (fun _ h => (aw_if (aw_bind (sr_f (fM_takeOff (W := wM_takeOff) rfl mfr.rf) (by assumption) rfl) (fun _ h => (aw_some (by first | assumption | trivial | exact True.intro)))) (aw_some (by first | assumption | trivial | exact True.intro))))))) (aw_xo (sM_link_b79 (by assumption)))) (aw_xo (sM_link_b79 (by assumption))))
theorem sM_link_b38 {t : moS} {p1 : Int32} {p2 : Int32} {a3 : Int32} (h : SRC E t) : aw (M_link_b38 t p1 p2 a3) (fun z => (SRC E) z.2) := by
  unfold M_link_b38
  refine aw_lp (I := (fun z => (SRC E) z.2)) ?_ ?_
  · exact h
  · intro y hy
    exact (sM_link_s38 hy)
theorem sM_link {t : moS} {p1 : Int32} {p2 : Int32} (h : SRC E t) : aw (M_link t p1 p2) (fun z => (SRC E) z.2) := by
  unfold M_link
  exact (aw_let (P := SRC E) (sr_s (by assumption) rfl) (fun _ h => (aw_if (aw_some (by first | assumption | trivial | exact True.intro)) (aw_if (aw_bind aw_t (fun _ h => (aw_if (aw_some (by first | assumption | trivial | exact True.intro)) (aw_bind (sr_wrZ (by assumption) rfl) (fun _ h => (sM_link_b38 (by assumption))))))) (aw_some (by first | assumption | trivial | exact True.intro))))))
end Sr
